section
-- ===== PART A: goes FIRST, ahead of the names: the tables' words, and 'selects' of the private methods out of them =====
/-- a private method of a class that the tables say can be made, by its rows of tables_1 -/
def lw_okq (q : MethodName × Nat) : Prop := (q.1.cls ≠ "java/lang/invoke/MethodHandle" ∧ q.1.cls ≠ "java/lang/invoke/VarHandle") ∧ Cond.instantiable q.1.cls q.2 ∈ tables_1 ∧ Cond.privateMethod q.1 ∈ tables_1 ∧ Cond.instanceMethod q.1 ∈ tables_1
theorem lw_p0 : lw_okq (⟨"WarmWalls", "tell", "(I)I"⟩, 9) := ⟨⟨by decide +kernel, by decide +kernel⟩, List.mem_of_getElem? (i := 15) (by decide +kernel), List.mem_of_getElem? (i := 188) (by decide +kernel), List.mem_of_getElem? (i := 189) (by decide +kernel)⟩
theorem lw_p1 : lw_okq (⟨"WarmWalls", "findingOfHours", "(II)I"⟩, 9) := ⟨⟨by decide +kernel, by decide +kernel⟩, List.mem_of_getElem? (i := 15) (by decide +kernel), List.mem_of_getElem? (i := 264) (by decide +kernel), List.mem_of_getElem? (i := 265) (by decide +kernel)⟩
theorem lw_p2 : lw_okq (⟨"WarmWalls$House", "heat", "()V"⟩, 14) := ⟨⟨by decide +kernel, by decide +kernel⟩, List.mem_of_getElem? (i := 23) (by decide +kernel), List.mem_of_getElem? (i := 282) (by decide +kernel), List.mem_of_getElem? (i := 283) (by decide +kernel)⟩
theorem lw_p3 : lw_okq (⟨"WarmWalls$House", "lostBy", "(I)I"⟩, 14) := ⟨⟨by decide +kernel, by decide +kernel⟩, List.mem_of_getElem? (i := 23) (by decide +kernel), List.mem_of_getElem? (i := 289) (by decide +kernel), List.mem_of_getElem? (i := 290) (by decide +kernel)⟩
theorem lw_p4 : lw_okq (⟨"WarmWalls", "startTrial", "()V"⟩, 9) := ⟨⟨by decide +kernel, by decide +kernel⟩, List.mem_of_getElem? (i := 15) (by decide +kernel), List.mem_of_getElem? (i := 313) (by decide +kernel), List.mem_of_getElem? (i := 314) (by decide +kernel)⟩
theorem lw_p5 : lw_okq (⟨"WarmWalls", "firstBelow", "(III)I"⟩, 9) := ⟨⟨by decide +kernel, by decide +kernel⟩, List.mem_of_getElem? (i := 15) (by decide +kernel), List.mem_of_getElem? (i := 333) (by decide +kernel), List.mem_of_getElem? (i := 334) (by decide +kernel)⟩
theorem lw_p6 : lw_okq (⟨"WarmWalls", "isLate", "()Z"⟩, 9) := ⟨⟨by decide +kernel, by decide +kernel⟩, List.mem_of_getElem? (i := 15) (by decide +kernel), List.mem_of_getElem? (i := 337) (by decide +kernel), List.mem_of_getElem? (i := 338) (by decide +kernel)⟩
theorem lw_p7 : lw_okq (⟨"WarmWalls", "goAsItGoes", "(I)V"⟩, 9) := ⟨⟨by decide +kernel, by decide +kernel⟩, List.mem_of_getElem? (i := 15) (by decide +kernel), List.mem_of_getElem? (i := 359) (by decide +kernel), List.mem_of_getElem? (i := 360) (by decide +kernel)⟩
theorem lw_p8 : lw_okq (⟨"WarmWalls", "findingOfRoomAhead", "(II)I"⟩, 9) := ⟨⟨by decide +kernel, by decide +kernel⟩, List.mem_of_getElem? (i := 15) (by decide +kernel), List.mem_of_getElem? (i := 371) (by decide +kernel), List.mem_of_getElem? (i := 372) (by decide +kernel)⟩
theorem lw_p9 : lw_okq (⟨"WarmWalls", "goWith", "(IIII)V"⟩, 9) := ⟨⟨by decide +kernel, by decide +kernel⟩, List.mem_of_getElem? (i := 15) (by decide +kernel), List.mem_of_getElem? (i := 375) (by decide +kernel), List.mem_of_getElem? (i := 376) (by decide +kernel)⟩
theorem lw_p10 : lw_okq (⟨"WarmWalls", "bestForItself", "(III)I"⟩, 9) := ⟨⟨by decide +kernel, by decide +kernel⟩, List.mem_of_getElem? (i := 15) (by decide +kernel), List.mem_of_getElem? (i := 387) (by decide +kernel), List.mem_of_getElem? (i := 388) (by decide +kernel)⟩
theorem lw_p11 : lw_okq (⟨"WarmWalls", "takenByAbsence", "(II)I"⟩, 9) := ⟨⟨by decide +kernel, by decide +kernel⟩, List.mem_of_getElem? (i := 15) (by decide +kernel), List.mem_of_getElem? (i := 401) (by decide +kernel), List.mem_of_getElem? (i := 402) (by decide +kernel)⟩
theorem lw_p12 : lw_okq (⟨"WarmWalls", "findingOfPairs", "(I)I"⟩, 9) := ⟨⟨by decide +kernel, by decide +kernel⟩, List.mem_of_getElem? (i := 15) (by decide +kernel), List.mem_of_getElem? (i := 409) (by decide +kernel), List.mem_of_getElem? (i := 410) (by decide +kernel)⟩
theorem lw_p13 : lw_okq (⟨"WarmWalls", "bestPair", "(I)I"⟩, 9) := ⟨⟨by decide +kernel, by decide +kernel⟩, List.mem_of_getElem? (i := 15) (by decide +kernel), List.mem_of_getElem? (i := 413) (by decide +kernel), List.mem_of_getElem? (i := 414) (by decide +kernel)⟩
theorem lw_p14 : lw_okq (⟨"WarmWalls", "goWithMove", "(III)V"⟩, 9) := ⟨⟨by decide +kernel, by decide +kernel⟩, List.mem_of_getElem? (i := 15) (by decide +kernel), List.mem_of_getElem? (i := 417) (by decide +kernel), List.mem_of_getElem? (i := 418) (by decide +kernel)⟩
theorem lw_p15 : lw_okq (⟨"WarmWalls", "dealKinds", "(II)V"⟩, 9) := ⟨⟨by decide +kernel, by decide +kernel⟩, List.mem_of_getElem? (i := 15) (by decide +kernel), List.mem_of_getElem? (i := 433) (by decide +kernel), List.mem_of_getElem? (i := 434) (by decide +kernel)⟩
def lw_privs_1 : List (MethodName × Nat) := [(⟨"WarmWalls", "tell", "(I)I"⟩, 9), (⟨"WarmWalls", "findingOfHours", "(II)I"⟩, 9), (⟨"WarmWalls$House", "heat", "()V"⟩, 14), (⟨"WarmWalls$House", "lostBy", "(I)I"⟩, 14), (⟨"WarmWalls", "startTrial", "()V"⟩, 9), (⟨"WarmWalls", "firstBelow", "(III)I"⟩, 9), (⟨"WarmWalls", "isLate", "()Z"⟩, 9), (⟨"WarmWalls", "goAsItGoes", "(I)V"⟩, 9), (⟨"WarmWalls", "findingOfRoomAhead", "(II)I"⟩, 9), (⟨"WarmWalls", "goWith", "(IIII)V"⟩, 9), (⟨"WarmWalls", "bestForItself", "(III)I"⟩, 9), (⟨"WarmWalls", "takenByAbsence", "(II)I"⟩, 9), (⟨"WarmWalls", "findingOfPairs", "(I)I"⟩, 9), (⟨"WarmWalls", "bestPair", "(I)I"⟩, 9), (⟨"WarmWalls", "goWithMove", "(III)V"⟩, 9), (⟨"WarmWalls", "dealKinds", "(II)V"⟩, 9)]
theorem lw_r1 : ∀ q ∈ lw_privs_1, lw_okq q := List.forall_mem_cons.mpr ⟨lw_p0, List.forall_mem_cons.mpr ⟨lw_p1, List.forall_mem_cons.mpr ⟨lw_p2, List.forall_mem_cons.mpr ⟨lw_p3, List.forall_mem_cons.mpr ⟨lw_p4, List.forall_mem_cons.mpr ⟨lw_p5, List.forall_mem_cons.mpr ⟨lw_p6, List.forall_mem_cons.mpr ⟨lw_p7, List.forall_mem_cons.mpr ⟨lw_p8, List.forall_mem_cons.mpr ⟨lw_p9, List.forall_mem_cons.mpr ⟨lw_p10, List.forall_mem_cons.mpr ⟨lw_p11, List.forall_mem_cons.mpr ⟨lw_p12, List.forall_mem_cons.mpr ⟨lw_p13, List.forall_mem_cons.mpr ⟨lw_p14, List.forall_mem_cons.mpr ⟨lw_p15, fun _ h => absurd h List.not_mem_nil⟩⟩⟩⟩⟩⟩⟩⟩⟩⟩⟩⟩⟩⟩⟩⟩
theorem lw_p16 : lw_okq (⟨"WarmWalls$House", "gotIfColdBy", "(II)I"⟩, 14) := ⟨⟨by decide +kernel, by decide +kernel⟩, List.mem_of_getElem? (i := 23) (by decide +kernel), List.mem_of_getElem? (i := 468) (by decide +kernel), List.mem_of_getElem? (i := 469) (by decide +kernel)⟩
theorem lw_p17 : lw_okq (⟨"WarmWalls$TextReader", "step", "()V"⟩, 6) := ⟨⟨by decide +kernel, by decide +kernel⟩, List.mem_of_getElem? (i := 89) (by decide +kernel), List.mem_of_getElem? (i := 514) (by decide +kernel), List.mem_of_getElem? (i := 515) (by decide +kernel)⟩
theorem lw_p18 : lw_okq (⟨"WarmWalls$TextReader", "readItem", "()Z"⟩, 6) := ⟨⟨by decide +kernel, by decide +kernel⟩, List.mem_of_getElem? (i := 89) (by decide +kernel), List.mem_of_getElem? (i := 526) (by decide +kernel), List.mem_of_getElem? (i := 527) (by decide +kernel)⟩
theorem lw_p19 : lw_okq (⟨"WarmWalls$TextReader", "kindTold", "()I"⟩, 6) := ⟨⟨by decide +kernel, by decide +kernel⟩, List.mem_of_getElem? (i := 89) (by decide +kernel), List.mem_of_getElem? (i := 530) (by decide +kernel), List.mem_of_getElem? (i := 531) (by decide +kernel)⟩
theorem lw_p20 : lw_okq (⟨"WarmWalls$TextReader", "isWord", "(Ljava/lang/String;)Z"⟩, 6) := ⟨⟨by decide +kernel, by decide +kernel⟩, List.mem_of_getElem? (i := 89) (by decide +kernel), List.mem_of_getElem? (i := 544) (by decide +kernel), List.mem_of_getElem? (i := 545) (by decide +kernel)⟩
theorem lw_p21 : lw_okq (⟨"WarmWalls$TextReader", "readRoom", "(I)Z"⟩, 6) := ⟨⟨by decide +kernel, by decide +kernel⟩, List.mem_of_getElem? (i := 89) (by decide +kernel), List.mem_of_getElem? (i := 596) (by decide +kernel), List.mem_of_getElem? (i := 597) (by decide +kernel)⟩
theorem lw_p22 : lw_okq (⟨"WarmWalls$TextReader", "readValue", "(II)Z"⟩, 6) := ⟨⟨by decide +kernel, by decide +kernel⟩, List.mem_of_getElem? (i := 89) (by decide +kernel), List.mem_of_getElem? (i := 608) (by decide +kernel), List.mem_of_getElem? (i := 609) (by decide +kernel)⟩
theorem lw_p23 : lw_okq (⟨"WarmWalls$TextReader", "readOut", "()Z"⟩, 6) := ⟨⟨by decide +kernel, by decide +kernel⟩, List.mem_of_getElem? (i := 89) (by decide +kernel), List.mem_of_getElem? (i := 617) (by decide +kernel), List.mem_of_getElem? (i := 618) (by decide +kernel)⟩
theorem lw_p24 : lw_okq (⟨"WarmWalls$TextReader", "readDamper", "()Z"⟩, 6) := ⟨⟨by decide +kernel, by decide +kernel⟩, List.mem_of_getElem? (i := 89) (by decide +kernel), List.mem_of_getElem? (i := 622) (by decide +kernel), List.mem_of_getElem? (i := 623) (by decide +kernel)⟩
theorem lw_p25 : lw_okq (⟨"WarmWalls", "findingOfSheet", "(I)I"⟩, 9) := ⟨⟨by decide +kernel, by decide +kernel⟩, List.mem_of_getElem? (i := 15) (by decide +kernel), List.mem_of_getElem? (i := 664) (by decide +kernel), List.mem_of_getElem? (i := 665) (by decide +kernel)⟩
theorem lw_p26 : lw_okq (⟨"WarmWallsModel", "finding", "(I)I"⟩, 35) := ⟨⟨by decide +kernel, by decide +kernel⟩, List.mem_of_getElem? (i := 713) (by decide +kernel), List.mem_of_getElem? (i := 849) (by decide +kernel), List.mem_of_getElem? (i := 850) (by decide +kernel)⟩
theorem lw_p27 : lw_okq (⟨"WarmWallsModel", "comes", "(I)I"⟩, 35) := ⟨⟨by decide +kernel, by decide +kernel⟩, List.mem_of_getElem? (i := 713) (by decide +kernel), List.mem_of_getElem? (i := 854) (by decide +kernel), List.mem_of_getElem? (i := 855) (by decide +kernel)⟩
theorem lw_p28 : lw_okq (⟨"WarmWallsModel", "isRoom", "(I)Z"⟩, 35) := ⟨⟨by decide +kernel, by decide +kernel⟩, List.mem_of_getElem? (i := 713) (by decide +kernel), List.mem_of_getElem? (i := 865) (by decide +kernel), List.mem_of_getElem? (i := 866) (by decide +kernel)⟩
theorem lw_p29 : lw_okq (⟨"WarmWallsModel", "wants", "(I)I"⟩, 35) := ⟨⟨by decide +kernel, by decide +kernel⟩, List.mem_of_getElem? (i := 713) (by decide +kernel), List.mem_of_getElem? (i := 869) (by decide +kernel), List.mem_of_getElem? (i := 870) (by decide +kernel)⟩
theorem lw_p30 : lw_okq (⟨"WarmWallsModel", "roomIs", "(II)I"⟩, 35) := ⟨⟨by decide +kernel, by decide +kernel⟩, List.mem_of_getElem? (i := 713) (by decide +kernel), List.mem_of_getElem? (i := 873) (by decide +kernel), List.mem_of_getElem? (i := 874) (by decide +kernel)⟩
theorem lw_p31 : lw_okq (⟨"WarmWallsModel", "become", "(II)I"⟩, 35) := ⟨⟨by decide +kernel, by decide +kernel⟩, List.mem_of_getElem? (i := 713) (by decide +kernel), List.mem_of_getElem? (i := 882) (by decide +kernel), List.mem_of_getElem? (i := 883) (by decide +kernel)⟩
def lw_privs_2 : List (MethodName × Nat) := [(⟨"WarmWalls$House", "gotIfColdBy", "(II)I"⟩, 14), (⟨"WarmWalls$TextReader", "step", "()V"⟩, 6), (⟨"WarmWalls$TextReader", "readItem", "()Z"⟩, 6), (⟨"WarmWalls$TextReader", "kindTold", "()I"⟩, 6), (⟨"WarmWalls$TextReader", "isWord", "(Ljava/lang/String;)Z"⟩, 6), (⟨"WarmWalls$TextReader", "readRoom", "(I)Z"⟩, 6), (⟨"WarmWalls$TextReader", "readValue", "(II)Z"⟩, 6), (⟨"WarmWalls$TextReader", "readOut", "()Z"⟩, 6), (⟨"WarmWalls$TextReader", "readDamper", "()Z"⟩, 6), (⟨"WarmWalls", "findingOfSheet", "(I)I"⟩, 9), (⟨"WarmWallsModel", "finding", "(I)I"⟩, 35), (⟨"WarmWallsModel", "comes", "(I)I"⟩, 35), (⟨"WarmWallsModel", "isRoom", "(I)Z"⟩, 35), (⟨"WarmWallsModel", "wants", "(I)I"⟩, 35), (⟨"WarmWallsModel", "roomIs", "(II)I"⟩, 35), (⟨"WarmWallsModel", "become", "(II)I"⟩, 35)]
theorem lw_r2 : ∀ q ∈ lw_privs_2, lw_okq q := List.forall_mem_cons.mpr ⟨lw_p16, List.forall_mem_cons.mpr ⟨lw_p17, List.forall_mem_cons.mpr ⟨lw_p18, List.forall_mem_cons.mpr ⟨lw_p19, List.forall_mem_cons.mpr ⟨lw_p20, List.forall_mem_cons.mpr ⟨lw_p21, List.forall_mem_cons.mpr ⟨lw_p22, List.forall_mem_cons.mpr ⟨lw_p23, List.forall_mem_cons.mpr ⟨lw_p24, List.forall_mem_cons.mpr ⟨lw_p25, List.forall_mem_cons.mpr ⟨lw_p26, List.forall_mem_cons.mpr ⟨lw_p27, List.forall_mem_cons.mpr ⟨lw_p28, List.forall_mem_cons.mpr ⟨lw_p29, List.forall_mem_cons.mpr ⟨lw_p30, List.forall_mem_cons.mpr ⟨lw_p31, fun _ h => absurd h List.not_mem_nil⟩⟩⟩⟩⟩⟩⟩⟩⟩⟩⟩⟩⟩⟩⟩⟩
theorem lw_p32 : lw_okq (⟨"WarmWallsModel", "heatersOf", "(I)I"⟩, 35) := ⟨⟨by decide +kernel, by decide +kernel⟩, List.mem_of_getElem? (i := 713) (by decide +kernel), List.mem_of_getElem? (i := 894) (by decide +kernel), List.mem_of_getElem? (i := 895) (by decide +kernel)⟩
theorem lw_p33 : lw_okq (⟨"WarmWallsModel", "moved", "(II)I"⟩, 35) := ⟨⟨by decide +kernel, by decide +kernel⟩, List.mem_of_getElem? (i := 713) (by decide +kernel), List.mem_of_getElem? (i := 909) (by decide +kernel), List.mem_of_getElem? (i := 910) (by decide +kernel)⟩
theorem lw_p34 : lw_okq (⟨"WarmWallsModel", "swap", "(III)V"⟩, 35) := ⟨⟨by decide +kernel, by decide +kernel⟩, List.mem_of_getElem? (i := 713) (by decide +kernel), List.mem_of_getElem? (i := 913) (by decide +kernel), List.mem_of_getElem? (i := 914) (by decide +kernel)⟩
theorem lw_p35 : lw_okq (⟨"WarmWallsModel", "isTooLate", "(I)Z"⟩, 35) := ⟨⟨by decide +kernel, by decide +kernel⟩, List.mem_of_getElem? (i := 713) (by decide +kernel), List.mem_of_getElem? (i := 921) (by decide +kernel), List.mem_of_getElem? (i := 922) (by decide +kernel)⟩
theorem lw_p36 : lw_okq (⟨"WarmWallsModel", "hoursGo", "(I)I"⟩, 35) := ⟨⟨by decide +kernel, by decide +kernel⟩, List.mem_of_getElem? (i := 713) (by decide +kernel), List.mem_of_getElem? (i := 926) (by decide +kernel), List.mem_of_getElem? (i := 927) (by decide +kernel)⟩
theorem lw_p37 : lw_okq (⟨"WarmWallsModel", "hour", "()I"⟩, 35) := ⟨⟨by decide +kernel, by decide +kernel⟩, List.mem_of_getElem? (i := 713) (by decide +kernel), List.mem_of_getElem? (i := 930) (by decide +kernel), List.mem_of_getElem? (i := 931) (by decide +kernel)⟩
theorem lw_p38 : lw_okq (⟨"WarmWallsModel", "gets", "(I)I"⟩, 35) := ⟨⟨by decide +kernel, by decide +kernel⟩, List.mem_of_getElem? (i := 713) (by decide +kernel), List.mem_of_getElem? (i := 934) (by decide +kernel), List.mem_of_getElem? (i := 935) (by decide +kernel)⟩
theorem lw_p39 : lw_okq (⟨"WarmWallsModel", "colds", "()I"⟩, 35) := ⟨⟨by decide +kernel, by decide +kernel⟩, List.mem_of_getElem? (i := 713) (by decide +kernel), List.mem_of_getElem? (i := 943) (by decide +kernel), List.mem_of_getElem? (i := 944) (by decide +kernel)⟩
theorem lw_p40 : lw_okq (⟨"WarmWallsModel", "sum", "(I)I"⟩, 35) := ⟨⟨by decide +kernel, by decide +kernel⟩, List.mem_of_getElem? (i := 713) (by decide +kernel), List.mem_of_getElem? (i := 947) (by decide +kernel), List.mem_of_getElem? (i := 948) (by decide +kernel)⟩
theorem lw_p41 : lw_okq (⟨"WarmWallsModel", "coldest", "()I"⟩, 35) := ⟨⟨by decide +kernel, by decide +kernel⟩, List.mem_of_getElem? (i := 713) (by decide +kernel), List.mem_of_getElem? (i := 951) (by decide +kernel), List.mem_of_getElem? (i := 952) (by decide +kernel)⟩
theorem lw_p42 : lw_okq (⟨"WarmWallsModel", "leastWarmth", "()I"⟩, 35) := ⟨⟨by decide +kernel, by decide +kernel⟩, List.mem_of_getElem? (i := 713) (by decide +kernel), List.mem_of_getElem? (i := 962) (by decide +kernel), List.mem_of_getElem? (i := 963) (by decide +kernel)⟩
theorem lw_p43 : lw_okq (⟨"WarmWallsModel", "putBack", "(I)I"⟩, 35) := ⟨⟨by decide +kernel, by decide +kernel⟩, List.mem_of_getElem? (i := 713) (by decide +kernel), List.mem_of_getElem? (i := 966) (by decide +kernel), List.mem_of_getElem? (i := 967) (by decide +kernel)⟩
theorem lw_p44 : lw_okq (⟨"WarmWallsModel", "firstBelow", "(III)I"⟩, 35) := ⟨⟨by decide +kernel, by decide +kernel⟩, List.mem_of_getElem? (i := 713) (by decide +kernel), List.mem_of_getElem? (i := 974) (by decide +kernel), List.mem_of_getElem? (i := 975) (by decide +kernel)⟩
theorem lw_p45 : lw_okq (⟨"WarmWallsModel", "isLate", "()Z"⟩, 35) := ⟨⟨by decide +kernel, by decide +kernel⟩, List.mem_of_getElem? (i := 713) (by decide +kernel), List.mem_of_getElem? (i := 978) (by decide +kernel), List.mem_of_getElem? (i := 979) (by decide +kernel)⟩
theorem lw_p46 : lw_okq (⟨"WarmWallsModel", "gave", "()I"⟩, 35) := ⟨⟨by decide +kernel, by decide +kernel⟩, List.mem_of_getElem? (i := 713) (by decide +kernel), List.mem_of_getElem? (i := 991) (by decide +kernel), List.mem_of_getElem? (i := 992) (by decide +kernel)⟩
theorem lw_p47 : lw_okq (⟨"WarmWallsModel", "refuses", "(II)I"⟩, 35) := ⟨⟨by decide +kernel, by decide +kernel⟩, List.mem_of_getElem? (i := 713) (by decide +kernel), List.mem_of_getElem? (i := 1003) (by decide +kernel), List.mem_of_getElem? (i := 1004) (by decide +kernel)⟩
def lw_privs_3 : List (MethodName × Nat) := [(⟨"WarmWallsModel", "heatersOf", "(I)I"⟩, 35), (⟨"WarmWallsModel", "moved", "(II)I"⟩, 35), (⟨"WarmWallsModel", "swap", "(III)V"⟩, 35), (⟨"WarmWallsModel", "isTooLate", "(I)Z"⟩, 35), (⟨"WarmWallsModel", "hoursGo", "(I)I"⟩, 35), (⟨"WarmWallsModel", "hour", "()I"⟩, 35), (⟨"WarmWallsModel", "gets", "(I)I"⟩, 35), (⟨"WarmWallsModel", "colds", "()I"⟩, 35), (⟨"WarmWallsModel", "sum", "(I)I"⟩, 35), (⟨"WarmWallsModel", "coldest", "()I"⟩, 35), (⟨"WarmWallsModel", "leastWarmth", "()I"⟩, 35), (⟨"WarmWallsModel", "putBack", "(I)I"⟩, 35), (⟨"WarmWallsModel", "firstBelow", "(III)I"⟩, 35), (⟨"WarmWallsModel", "isLate", "()Z"⟩, 35), (⟨"WarmWallsModel", "gave", "()I"⟩, 35), (⟨"WarmWallsModel", "refuses", "(II)I"⟩, 35)]
theorem lw_r3 : ∀ q ∈ lw_privs_3, lw_okq q := List.forall_mem_cons.mpr ⟨lw_p32, List.forall_mem_cons.mpr ⟨lw_p33, List.forall_mem_cons.mpr ⟨lw_p34, List.forall_mem_cons.mpr ⟨lw_p35, List.forall_mem_cons.mpr ⟨lw_p36, List.forall_mem_cons.mpr ⟨lw_p37, List.forall_mem_cons.mpr ⟨lw_p38, List.forall_mem_cons.mpr ⟨lw_p39, List.forall_mem_cons.mpr ⟨lw_p40, List.forall_mem_cons.mpr ⟨lw_p41, List.forall_mem_cons.mpr ⟨lw_p42, List.forall_mem_cons.mpr ⟨lw_p43, List.forall_mem_cons.mpr ⟨lw_p44, List.forall_mem_cons.mpr ⟨lw_p45, List.forall_mem_cons.mpr ⟨lw_p46, List.forall_mem_cons.mpr ⟨lw_p47, fun _ h => absurd h List.not_mem_nil⟩⟩⟩⟩⟩⟩⟩⟩⟩⟩⟩⟩⟩⟩⟩⟩
theorem lw_p48 : lw_okq (⟨"WarmWallsModel", "liveAnyhow", "(I)V"⟩, 35) := ⟨⟨by decide +kernel, by decide +kernel⟩, List.mem_of_getElem? (i := 713) (by decide +kernel), List.mem_of_getElem? (i := 1007) (by decide +kernel), List.mem_of_getElem? (i := 1008) (by decide +kernel)⟩
theorem lw_p49 : lw_okq (⟨"WarmWallsModel", "live", "(I)V"⟩, 35) := ⟨⟨by decide +kernel, by decide +kernel⟩, List.mem_of_getElem? (i := 713) (by decide +kernel), List.mem_of_getElem? (i := 1011) (by decide +kernel), List.mem_of_getElem? (i := 1012) (by decide +kernel)⟩
theorem lw_p50 : lw_okq (⟨"WarmWallsModel", "bestOf", "(IIII)I"⟩, 35) := ⟨⟨by decide +kernel, by decide +kernel⟩, List.mem_of_getElem? (i := 713) (by decide +kernel), List.mem_of_getElem? (i := 1019) (by decide +kernel), List.mem_of_getElem? (i := 1020) (by decide +kernel)⟩
theorem lw_p51 : lw_okq (⟨"WarmWallsModel", "refusesHours", "(II)I"⟩, 35) := ⟨⟨by decide +kernel, by decide +kernel⟩, List.mem_of_getElem? (i := 713) (by decide +kernel), List.mem_of_getElem? (i := 1027) (by decide +kernel), List.mem_of_getElem? (i := 1028) (by decide +kernel)⟩
theorem lw_p52 : lw_okq (⟨"WarmWallsModel", "refusesPairs", "(I)I"⟩, 35) := ⟨⟨by decide +kernel, by decide +kernel⟩, List.mem_of_getElem? (i := 713) (by decide +kernel), List.mem_of_getElem? (i := 1039) (by decide +kernel), List.mem_of_getElem? (i := 1040) (by decide +kernel)⟩
theorem lw_p53 : lw_okq (⟨"WarmWallsModel", "findPair", "(I)V"⟩, 35) := ⟨⟨by decide +kernel, by decide +kernel⟩, List.mem_of_getElem? (i := 713) (by decide +kernel), List.mem_of_getElem? (i := 1043) (by decide +kernel), List.mem_of_getElem? (i := 1044) (by decide +kernel)⟩
theorem lw_p54 : lw_okq (⟨"WarmWallsModel", "leastThen", "()I"⟩, 35) := ⟨⟨by decide +kernel, by decide +kernel⟩, List.mem_of_getElem? (i := 713) (by decide +kernel), List.mem_of_getElem? (i := 1047) (by decide +kernel), List.mem_of_getElem? (i := 1048) (by decide +kernel)⟩
theorem lw_p55 : lw_okq (⟨"WarmWallsModel", "dealOn", "(IIII)V"⟩, 35) := ⟨⟨by decide +kernel, by decide +kernel⟩, List.mem_of_getElem? (i := 713) (by decide +kernel), List.mem_of_getElem? (i := 1063) (by decide +kernel), List.mem_of_getElem? (i := 1064) (by decide +kernel)⟩
theorem lw_p56 : lw_okq (⟨"WarmWallsModel", "leastFor", "(IIIIII)I"⟩, 35) := ⟨⟨by decide +kernel, by decide +kernel⟩, List.mem_of_getElem? (i := 713) (by decide +kernel), List.mem_of_getElem? (i := 1071) (by decide +kernel), List.mem_of_getElem? (i := 1072) (by decide +kernel)⟩
theorem lw_p57 : lw_okq (⟨"WarmWallsModel", "findCulprits", "()I"⟩, 35) := ⟨⟨by decide +kernel, by decide +kernel⟩, List.mem_of_getElem? (i := 713) (by decide +kernel), List.mem_of_getElem? (i := 1095) (by decide +kernel), List.mem_of_getElem? (i := 1096) (by decide +kernel)⟩
theorem lw_p58 : lw_okq (⟨"WarmWallsModel", "fits", "(I)Z"⟩, 35) := ⟨⟨by decide +kernel, by decide +kernel⟩, List.mem_of_getElem? (i := 713) (by decide +kernel), List.mem_of_getElem? (i := 1099) (by decide +kernel), List.mem_of_getElem? (i := 1100) (by decide +kernel)⟩
theorem lw_p59 : lw_okq (⟨"WarmWallsModel", "drawn", "(I)I"⟩, 35) := ⟨⟨by decide +kernel, by decide +kernel⟩, List.mem_of_getElem? (i := 713) (by decide +kernel), List.mem_of_getElem? (i := 1111) (by decide +kernel), List.mem_of_getElem? (i := 1112) (by decide +kernel)⟩
theorem lw_p60 : lw_okq (⟨"WarmWallsModel", "aways", "()I"⟩, 35) := ⟨⟨by decide +kernel, by decide +kernel⟩, List.mem_of_getElem? (i := 713) (by decide +kernel), List.mem_of_getElem? (i := 1116) (by decide +kernel), List.mem_of_getElem? (i := 1117) (by decide +kernel)⟩
theorem lw_p61 : lw_okq (⟨"WarmWallsModel", "next", "()V"⟩, 35) := ⟨⟨by decide +kernel, by decide +kernel⟩, List.mem_of_getElem? (i := 713) (by decide +kernel), List.mem_of_getElem? (i := 1136) (by decide +kernel), List.mem_of_getElem? (i := 1137) (by decide +kernel)⟩
theorem lw_p62 : lw_okq (⟨"WarmWallsModel", "byteAt", "(I)I"⟩, 35) := ⟨⟨by decide +kernel, by decide +kernel⟩, List.mem_of_getElem? (i := 713) (by decide +kernel), List.mem_of_getElem? (i := 1140) (by decide +kernel), List.mem_of_getElem? (i := 1141) (by decide +kernel)⟩
theorem lw_p63 : lw_okq (⟨"WarmWallsModel", "readItem", "()V"⟩, 35) := ⟨⟨by decide +kernel, by decide +kernel⟩, List.mem_of_getElem? (i := 713) (by decide +kernel), List.mem_of_getElem? (i := 1144) (by decide +kernel), List.mem_of_getElem? (i := 1145) (by decide +kernel)⟩
def lw_privs_4 : List (MethodName × Nat) := [(⟨"WarmWallsModel", "liveAnyhow", "(I)V"⟩, 35), (⟨"WarmWallsModel", "live", "(I)V"⟩, 35), (⟨"WarmWallsModel", "bestOf", "(IIII)I"⟩, 35), (⟨"WarmWallsModel", "refusesHours", "(II)I"⟩, 35), (⟨"WarmWallsModel", "refusesPairs", "(I)I"⟩, 35), (⟨"WarmWallsModel", "findPair", "(I)V"⟩, 35), (⟨"WarmWallsModel", "leastThen", "()I"⟩, 35), (⟨"WarmWallsModel", "dealOn", "(IIII)V"⟩, 35), (⟨"WarmWallsModel", "leastFor", "(IIIIII)I"⟩, 35), (⟨"WarmWallsModel", "findCulprits", "()I"⟩, 35), (⟨"WarmWallsModel", "fits", "(I)Z"⟩, 35), (⟨"WarmWallsModel", "drawn", "(I)I"⟩, 35), (⟨"WarmWallsModel", "aways", "()I"⟩, 35), (⟨"WarmWallsModel", "next", "()V"⟩, 35), (⟨"WarmWallsModel", "byteAt", "(I)I"⟩, 35), (⟨"WarmWallsModel", "readItem", "()V"⟩, 35)]
theorem lw_r4 : ∀ q ∈ lw_privs_4, lw_okq q := List.forall_mem_cons.mpr ⟨lw_p48, List.forall_mem_cons.mpr ⟨lw_p49, List.forall_mem_cons.mpr ⟨lw_p50, List.forall_mem_cons.mpr ⟨lw_p51, List.forall_mem_cons.mpr ⟨lw_p52, List.forall_mem_cons.mpr ⟨lw_p53, List.forall_mem_cons.mpr ⟨lw_p54, List.forall_mem_cons.mpr ⟨lw_p55, List.forall_mem_cons.mpr ⟨lw_p56, List.forall_mem_cons.mpr ⟨lw_p57, List.forall_mem_cons.mpr ⟨lw_p58, List.forall_mem_cons.mpr ⟨lw_p59, List.forall_mem_cons.mpr ⟨lw_p60, List.forall_mem_cons.mpr ⟨lw_p61, List.forall_mem_cons.mpr ⟨lw_p62, List.forall_mem_cons.mpr ⟨lw_p63, fun _ h => absurd h List.not_mem_nil⟩⟩⟩⟩⟩⟩⟩⟩⟩⟩⟩⟩⟩⟩⟩⟩
theorem lw_p64 : lw_okq (⟨"WarmWallsModel", "kindTold", "()I"⟩, 35) := ⟨⟨by decide +kernel, by decide +kernel⟩, List.mem_of_getElem? (i := 713) (by decide +kernel), List.mem_of_getElem? (i := 1148) (by decide +kernel), List.mem_of_getElem? (i := 1149) (by decide +kernel)⟩
theorem lw_p65 : lw_okq (⟨"WarmWallsModel", "isWord", "(Ljava/lang/String;)Z"⟩, 35) := ⟨⟨by decide +kernel, by decide +kernel⟩, List.mem_of_getElem? (i := 713) (by decide +kernel), List.mem_of_getElem? (i := 1152) (by decide +kernel), List.mem_of_getElem? (i := 1153) (by decide +kernel)⟩
theorem lw_p66 : lw_okq (⟨"WarmWallsModel", "must", "(Z)V"⟩, 35) := ⟨⟨by decide +kernel, by decide +kernel⟩, List.mem_of_getElem? (i := 713) (by decide +kernel), List.mem_of_getElem? (i := 1158) (by decide +kernel), List.mem_of_getElem? (i := 1159) (by decide +kernel)⟩
theorem lw_p67 : lw_okq (⟨"WarmWallsModel", "row", "(III)V"⟩, 35) := ⟨⟨by decide +kernel, by decide +kernel⟩, List.mem_of_getElem? (i := 713) (by decide +kernel), List.mem_of_getElem? (i := 1162) (by decide +kernel), List.mem_of_getElem? (i := 1163) (by decide +kernel)⟩
theorem lw_p68 : lw_okq (⟨"WarmWallsModel", "isNext", "(Ljava/lang/String;)Z"⟩, 35) := ⟨⟨by decide +kernel, by decide +kernel⟩, List.mem_of_getElem? (i := 713) (by decide +kernel), List.mem_of_getElem? (i := 1166) (by decide +kernel), List.mem_of_getElem? (i := 1167) (by decide +kernel)⟩
theorem lw_p69 : lw_okq (⟨"WarmWallsModel", "number", "(II)I"⟩, 35) := ⟨⟨by decide +kernel, by decide +kernel⟩, List.mem_of_getElem? (i := 713) (by decide +kernel), List.mem_of_getElem? (i := 1172) (by decide +kernel), List.mem_of_getElem? (i := 1173) (by decide +kernel)⟩
theorem lw_p70 : lw_okq (⟨"WarmWallsModel", "isSo", "(I)I"⟩, 35) := ⟨⟨by decide +kernel, by decide +kernel⟩, List.mem_of_getElem? (i := 713) (by decide +kernel), List.mem_of_getElem? (i := 1177) (by decide +kernel), List.mem_of_getElem? (i := 1178) (by decide +kernel)⟩
def lw_privs_5 : List (MethodName × Nat) := [(⟨"WarmWallsModel", "kindTold", "()I"⟩, 35), (⟨"WarmWallsModel", "isWord", "(Ljava/lang/String;)Z"⟩, 35), (⟨"WarmWallsModel", "must", "(Z)V"⟩, 35), (⟨"WarmWallsModel", "row", "(III)V"⟩, 35), (⟨"WarmWallsModel", "isNext", "(Ljava/lang/String;)Z"⟩, 35), (⟨"WarmWallsModel", "number", "(II)I"⟩, 35), (⟨"WarmWallsModel", "isSo", "(I)I"⟩, 35)]
theorem lw_r5 : ∀ q ∈ lw_privs_5, lw_okq q := List.forall_mem_cons.mpr ⟨lw_p64, List.forall_mem_cons.mpr ⟨lw_p65, List.forall_mem_cons.mpr ⟨lw_p66, List.forall_mem_cons.mpr ⟨lw_p67, List.forall_mem_cons.mpr ⟨lw_p68, List.forall_mem_cons.mpr ⟨lw_p69, List.forall_mem_cons.mpr ⟨lw_p70, fun _ h => absurd h List.not_mem_nil⟩⟩⟩⟩⟩⟩⟩
def lw_privs : List (MethodName × Nat) := lw_privs_1 ++ (lw_privs_2 ++ (lw_privs_3 ++ (lw_privs_4 ++ (lw_privs_5))))
def lw_tbl : List Cond := k2_sels lw_privs ++ tables_1
theorem lw_privs_ok : ∀ q ∈ lw_privs, lw_okq q := by
  show ∀ q ∈ lw_privs_1 ++ (lw_privs_2 ++ (lw_privs_3 ++ (lw_privs_4 ++ (lw_privs_5)))), lw_okq q
  exact List.forall_mem_append.mpr ⟨lw_r1, List.forall_mem_append.mpr ⟨lw_r2, List.forall_mem_append.mpr ⟨lw_r3, List.forall_mem_append.mpr ⟨lw_r4, lw_r5⟩⟩⟩⟩
end
section
/-! ===== BEGIN words of one list among another's, by their places ===== -/
theorem goodIn_r {big : List Cond} (ws : List Cond) (ps : List Nat) (hp : ws = ps.filterMap (fun i => big[i]?)) (h : ws.all goodWord = true) : GoodIn big ws := by
  intro w hw
  have h1 := List.all_eq_true.mp h w hw
  rw [hp] at hw
  obtain ⟨i, -, hi⟩ := List.mem_filterMap.mp hw
  have hm : w ∈ big := by first | exact List.mem_of_getElem? hi | exact List.getElem?_mem hi
  exact ⟨hm, good_of_word h1⟩
theorem goodIn_app {big a b : List Cond} (ha : GoodIn big a) (hb : GoodIn big b) : GoodIn big (a ++ b) := fun w h => (List.mem_append.mp h).elim (ha w) (hb w)
theorem goodIn_ca {big a b : List Cond} {c : Cond} (ha : GoodIn big (c :: a)) (hb : GoodIn big b) : GoodIn big (c :: (a ++ b)) := fun w h => (List.mem_cons.mp h).elim (fun e => ha w (List.mem_cons.mpr (Or.inl e))) (fun h => (List.mem_append.mp h).elim (fun h => ha w (List.mem_cons.mpr (Or.inr h))) (hb w))
theorem goodIn_sub {big ws : List Cond} (hm : ∀ w ∈ ws, w ∈ big) (h : ws.all goodWord = true) : GoodIn big ws := fun w hw => ⟨hm w hw, good_of_word (List.all_eq_true.mp h w hw)⟩
/-! ===== END ===== -/

/-! ===== BEGIN printed: names, fields, word lists, decode rows ===== -/
def RX0 : String := "WarmWalls$House"
def TX0 : u_T := fun k => match k with
  | 0 => ("WarmWalls$House", "rooms", "I", false)
  | 1 => ("WarmWalls$House", "out", "I", false)
  | 2 => ("WarmWalls$House", "hour", "I", false)
  | 3 => ("WarmWalls$House", "z", "I", false)
  | 4 => ("WarmWalls$House", "kind", "[I", true)
  | 5 => ("WarmWalls$House", "warmth", "[I", true)
  | 6 => ("WarmWalls$House", "coal", "[I", true)
  | 7 => ("WarmWalls$House", "wall", "[I", true)
  | 8 => ("WarmWalls$House", "heats", "[I", true)
  | 9 => ("WarmWalls$House", "away", "[I", true)
  | 10 => ("WarmWalls$House", "damper", "[I", true)
  | 11 => ("WarmWalls$House", "got", "[I", true)
  | 12 => ("WarmWalls$House", "gave", "[I", true)
  | _ => ("WarmWalls$House", "spots", "[I", true)
def tyX0 : Nat → FieldType := fun k => match k with
  | 0 => .int
  | 1 => .int
  | 2 => .int
  | 3 => .int
  | 4 => .array .int
  | 5 => .array .int
  | 6 => .array .int
  | 7 => .array .int
  | 8 => .array .int
  | 9 => .array .int
  | 10 => .array .int
  | 11 => .array .int
  | 12 => .array .int
  | _ => .array .int
abbrev wsX00 : List Cond := u_ws RX0 TX0 14
theorem nmX0 : ∀ a, a < 14 → ∀ b, b < 14 → a ≠ b → (TX0 a).2.1 ≠ (TX0 b).2.1 := by decide +kernel
theorem tyX0_ok : ∀ k, k < 14 → parseFieldDescriptor (TX0 k).2.2.1 = some (tyX0 k) := by decide +kernel
abbrev cX0_init : ByteArray := prog_2_method_1_code
def yX0_init : MethodName := ⟨RX0, "<init>", "()V"⟩
abbrev cX0_has : ByteArray := prog_2_method_2_code
def yX0_has : MethodName := ⟨RX0, "has", "(I)Z"⟩
abbrev cX0_addRoom : ByteArray := prog_2_method_3_code
def yX0_addRoom : MethodName := ⟨RX0, "addRoom", "(I)I"⟩
abbrev cX0_rowOf : ByteArray := prog_2_method_4_code
def yX0_rowOf : MethodName := ⟨RX0, "rowOf", "(I)[I"⟩
abbrev cX0_fits : ByteArray := prog_2_method_5_code
def yX0_fits : MethodName := ⟨RX0, "fits", "(III)Z"⟩
abbrev cX0_becomes : ByteArray := prog_2_method_6_code
def yX0_becomes : MethodName := ⟨RX0, "becomes", "(LWarmWalls$House;)V"⟩
abbrev cX0_wants : ByteArray := prog_2_method_7_code
def yX0_wants : MethodName := ⟨RX0, "wants", "(I)I"⟩
abbrev cX0_stokes : ByteArray := prog_2_method_8_code
def yX0_stokes : MethodName := ⟨RX0, "stokes", "(I)I"⟩
abbrev cX0_passHours : ByteArray := prog_2_method_9_code
def yX0_passHours : MethodName := ⟨RX0, "passHours", "(I)I"⟩
abbrev cX0_passHour : ByteArray := prog_2_method_10_code
def yX0_passHour : MethodName := ⟨RX0, "passHour", "()I"⟩
abbrev cX0_heat : ByteArray := prog_2_method_11_code
def yX0_heat : MethodName := ⟨RX0, "heat", "()V"⟩
abbrev cX0_lostBy : ByteArray := prog_2_method_12_code
def yX0_lostBy : MethodName := ⟨RX0, "lostBy", "(I)I"⟩
abbrev cX0_nextIsRest : ByteArray := prog_2_method_13_code
def yX0_nextIsRest : MethodName := ⟨RX0, "nextIsRest", "()Z"⟩
abbrev cX0_stokesLike : ByteArray := prog_2_method_14_code
def yX0_stokesLike : MethodName := ⟨RX0, "stokesLike", "(LWarmWalls$House;)Z"⟩
abbrev cX0_changePlaces : ByteArray := prog_2_method_15_code
def yX0_changePlaces : MethodName := ⟨RX0, "changePlaces", "(II)V"⟩
abbrev cX0_swap : ByteArray := prog_2_method_16_code
def yX0_swap : MethodName := ⟨RX0, "swap", "([III)V"⟩
abbrev cX0_isOneOf : ByteArray := prog_2_method_17_code
def yX0_isOneOf : MethodName := ⟨RX0, "isOneOf", "(II)Z"⟩
abbrev cX0_heatersOf : ByteArray := prog_2_method_18_code
def yX0_heatersOf : MethodName := ⟨RX0, "heatersOf", "(I)I"⟩
abbrev cX0_reachedFrom : ByteArray := prog_2_method_19_code
def yX0_reachedFrom : MethodName := ⟨RX0, "reachedFrom", "(I)I"⟩
abbrev cX0_coldRooms : ByteArray := prog_2_method_20_code
def yX0_coldRooms : MethodName := ⟨RX0, "coldRooms", "()I"⟩
abbrev cX0_awayRooms : ByteArray := prog_2_method_21_code
def yX0_awayRooms : MethodName := ⟨RX0, "awayRooms", "()I"⟩
abbrev cX0_warmerThan : ByteArray := prog_2_method_22_code
def yX0_warmerThan : MethodName := ⟨RX0, "warmerThan", "(LWarmWalls$House;)I"⟩
abbrev cX0_sumOf : ByteArray := prog_2_method_23_code
def yX0_sumOf : MethodName := ⟨RX0, "sumOf", "([I)I"⟩
abbrev cX0_leastWarmth : ByteArray := prog_2_method_24_code
def yX0_leastWarmth : MethodName := ⟨RX0, "leastWarmth", "()I"⟩
abbrev cX0_coldestRoom : ByteArray := prog_2_method_25_code
def yX0_coldestRoom : MethodName := ⟨RX0, "coldestRoom", "()I"⟩
abbrev cX0_spotsInUse : ByteArray := prog_2_method_26_code
def yX0_spotsInUse : MethodName := ⟨RX0, "spotsInUse", "()I"⟩
abbrev cX0_draw : ByteArray := prog_2_method_27_code
def yX0_draw : MethodName := ⟨RX0, "draw", "()I"⟩
abbrev cX0_gotAsIfColdBy : ByteArray := prog_2_method_28_code
def yX0_gotAsIfColdBy : MethodName := ⟨RX0, "gotAsIfColdBy", "(I)Z"⟩
abbrev cX0_gotIfColdBy : ByteArray := prog_2_method_29_code
def yX0_gotIfColdBy : MethodName := ⟨RX0, "gotIfColdBy", "(II)I"⟩
def RX1 : String := "WarmWalls$Sheet"
def TX1 : u_T := fun k => match k with
  | 0 => ("WarmWalls$Sheet", "bits", "I", false)
  | 1 => ("WarmWalls$Sheet", "length", "I", false)
  | _ => ("WarmWalls$Sheet", "numbers", "[I", true)
def tyX1 : Nat → FieldType := fun k => match k with
  | 0 => .int
  | 1 => .int
  | _ => .array .int
abbrev wsX10 : List Cond := u_ws RX1 TX1 3
theorem nmX1 : ∀ a, a < 3 → ∀ b, b < 3 → a ≠ b → (TX1 a).2.1 ≠ (TX1 b).2.1 := by decide +kernel
theorem tyX1_ok : ∀ k, k < 3 → parseFieldDescriptor (TX1 k).2.2.1 = some (tyX1 k) := by decide +kernel
abbrev cX1_init : ByteArray := prog_3_method_1_code
def yX1_init : MethodName := ⟨RX1, "<init>", "()V"⟩
abbrev cX1_renew : ByteArray := prog_3_method_2_code
def yX1_renew : MethodName := ⟨RX1, "renew", "(II)V"⟩
abbrev cX1_has : ByteArray := prog_3_method_3_code
def yX1_has : MethodName := ⟨RX1, "has", "(II)Z"⟩
abbrev cX1_put : ByteArray := prog_3_method_4_code
def yX1_put : MethodName := ⟨RX1, "put", "(II)V"⟩
def RX2 : String := "WarmWalls$Tape"
def TX2 : u_T := fun k => match k with
  | 0 => ("WarmWalls$Tape", "bytes", "[I", true)
  | _ => ("WarmWalls$Tape", "length", "I", false)
def tyX2 : Nat → FieldType := fun k => match k with
  | 0 => .array .int
  | _ => .int
abbrev wsX20 : List Cond := u_ws RX2 TX2 2
theorem nmX2 : ∀ a, a < 2 → ∀ b, b < 2 → a ≠ b → (TX2 a).2.1 ≠ (TX2 b).2.1 := by decide +kernel
theorem tyX2_ok : ∀ k, k < 2 → parseFieldDescriptor (TX2 k).2.2.1 = some (tyX2 k) := by decide +kernel
abbrev cX2_init : ByteArray := prog_4_method_1_code
def yX2_init : MethodName := ⟨RX2, "<init>", "()V"⟩
abbrev cX2_append : ByteArray := prog_4_method_2_code
def yX2_append : MethodName := ⟨RX2, "append", "(II)V"⟩
abbrev cX2_byteAt : ByteArray := prog_4_method_3_code
def yX2_byteAt : MethodName := ⟨RX2, "byteAt", "(I)I"⟩
def RX3 : String := "WarmWalls$TextReader"
def TX3 : u_T := fun k => match k with
  | 0 => ("WarmWalls$TextReader", "tape", "LWarmWalls$Tape;", true)
  | 1 => ("WarmWalls$TextReader", "draft", "LWarmWalls$House;", true)
  | 2 => ("WarmWalls$TextReader", "token", "I", false)
  | 3 => ("WarmWalls$TextReader", "begin", "I", false)
  | 4 => ("WarmWalls$TextReader", "end", "I", false)
  | _ => ("WarmWalls$TextReader", "value", "I", false)
def tyX3 : Nat → FieldType := fun k => match k with
  | 0 => .object "WarmWalls$Tape"
  | 1 => .object "WarmWalls$House"
  | 2 => .int
  | 3 => .int
  | 4 => .int
  | _ => .int
abbrev wsX30 : List Cond := u_ws RX3 TX3 6
theorem nmX3 : ∀ a, a < 6 → ∀ b, b < 6 → a ≠ b → (TX3 a).2.1 ≠ (TX3 b).2.1 := by decide +kernel
theorem tyX3_ok : ∀ k, k < 6 → parseFieldDescriptor (TX3 k).2.2.1 = some (tyX3 k) := by decide +kernel
abbrev cX3_init : ByteArray := prog_5_method_1_code
def yX3_init : MethodName := ⟨RX3, "<init>", "()V"⟩
abbrev cX3_read : ByteArray := prog_5_method_2_code
def yX3_read : MethodName := ⟨RX3, "read", "(LWarmWalls$House;)I"⟩
abbrev cX3_readItem : ByteArray := prog_5_method_3_code
def yX3_readItem : MethodName := ⟨RX3, "readItem", "()Z"⟩
abbrev cX3_readRoom : ByteArray := prog_5_method_4_code
def yX3_readRoom : MethodName := ⟨RX3, "readRoom", "(I)Z"⟩
abbrev cX3_readValue : ByteArray := prog_5_method_5_code
def yX3_readValue : MethodName := ⟨RX3, "readValue", "(II)Z"⟩
abbrev cX3_readOut : ByteArray := prog_5_method_6_code
def yX3_readOut : MethodName := ⟨RX3, "readOut", "()Z"⟩
abbrev cX3_readDamper : ByteArray := prog_5_method_7_code
def yX3_readDamper : MethodName := ⟨RX3, "readDamper", "()Z"⟩
abbrev cX3_kindTold : ByteArray := prog_5_method_8_code
def yX3_kindTold : MethodName := ⟨RX3, "kindTold", "()I"⟩
abbrev cX3_wordOfKind : ByteArray := prog_5_method_9_code
def yX3_wordOfKind : MethodName := ⟨RX3, "wordOfKind", "(I)Ljava/lang/String;"⟩
abbrev cX3_wordOfPart : ByteArray := prog_5_method_10_code
def yX3_wordOfPart : MethodName := ⟨RX3, "wordOfPart", "(I)Ljava/lang/String;"⟩
abbrev cX3_isWord : ByteArray := prog_5_method_11_code
def yX3_isWord : MethodName := ⟨RX3, "isWord", "(Ljava/lang/String;)Z"⟩
abbrev cX3_step : ByteArray := prog_5_method_12_code
def yX3_step : MethodName := ⟨RX3, "step", "()V"⟩
abbrev cX3_tokenBegunBy : ByteArray := prog_5_method_13_code
def yX3_tokenBegunBy : MethodName := ⟨RX3, "tokenBegunBy", "(I)I"⟩
def RX4 : String := "WarmWalls"
def TX4 : u_T := fun k => match k with
  | 0 => ("WarmWalls", "house", "LWarmWalls$House;", true)
  | 1 => ("WarmWalls", "trial", "LWarmWalls$House;", true)
  | 2 => ("WarmWalls", "asItGoes", "LWarmWalls$House;", true)
  | 3 => ("WarmWalls", "kept", "LWarmWalls$House;", true)
  | 4 => ("WarmWalls", "isKept", "Z", false)
  | 5 => ("WarmWalls", "reader", "LWarmWalls$TextReader;", true)
  | 6 => ("WarmWalls", "tape", "LWarmWalls$Tape;", true)
  | 7 => ("WarmWalls", "sheets", "[LWarmWalls$Sheet;", true)
  | _ => ("WarmWalls", "told", "[I", true)
def tyX4 : Nat → FieldType := fun k => match k with
  | 0 => .object "WarmWalls$House"
  | 1 => .object "WarmWalls$House"
  | 2 => .object "WarmWalls$House"
  | 3 => .object "WarmWalls$House"
  | 4 => .boolean
  | 5 => .object "WarmWalls$TextReader"
  | 6 => .object "WarmWalls$Tape"
  | 7 => .array (.object "WarmWalls$Sheet")
  | _ => .array .int
abbrev wsX40 : List Cond := u_ws RX4 TX4 9
theorem nmX4 : ∀ a, a < 9 → ∀ b, b < 9 → a ≠ b → (TX4 a).2.1 ≠ (TX4 b).2.1 := by decide +kernel
theorem tyX4_ok : ∀ k, k < 9 → parseFieldDescriptor (TX4 k).2.2.1 = some (tyX4 k) := by decide +kernel
abbrev cX4_init : ByteArray := prog_1_method_1_code
def yX4_init : MethodName := ⟨RX4, "<init>", "()V"⟩
abbrev cX4_room : ByteArray := prog_1_method_2_code
def yX4_room : MethodName := ⟨RX4, "room", "(I)I"⟩
abbrev cX4_of : ByteArray := prog_1_method_3_code
def yX4_of : MethodName := ⟨RX4, "of", "(II)I"⟩
abbrev cX4_change : ByteArray := prog_1_method_4_code
def yX4_change : MethodName := ⟨RX4, "change", "(III)I"⟩
abbrev cX4_out : ByteArray := prog_1_method_5_code
def yX4_out : MethodName := ⟨RX4, "out", "(I)I"⟩
abbrev cX4_heaters : ByteArray := prog_1_method_6_code
def yX4_heaters : MethodName := ⟨RX4, "heaters", "(I)I"⟩
abbrev cX4_reach : ByteArray := prog_1_method_7_code
def yX4_reach : MethodName := ⟨RX4, "reach", "(I)I"⟩
abbrev cX4_move : ByteArray := prog_1_method_8_code
def yX4_move : MethodName := ⟨RX4, "move", "(II)I"⟩
abbrev cX4_hours : ByteArray := prog_1_method_9_code
def yX4_hours : MethodName := ⟨RX4, "hours", "(I)I"⟩
abbrev cX4_now : ByteArray := prog_1_method_10_code
def yX4_now : MethodName := ⟨RX4, "now", "(I)I"⟩
abbrev cX4_ahead : ByteArray := prog_1_method_11_code
def yX4_ahead : MethodName := ⟨RX4, "ahead", "(II)I"⟩
abbrev cX4_cold : ByteArray := prog_1_method_12_code
def yX4_cold : MethodName := ⟨RX4, "cold", "(I)I"⟩
abbrev cX4_spent : ByteArray := prog_1_method_13_code
def yX4_spent : MethodName := ⟨RX4, "spent", "(I)I"⟩
abbrev cX4_firstBelow : ByteArray := prog_1_method_14_code
def yX4_firstBelow : MethodName := ⟨RX4, "firstBelow", "(III)I"⟩
abbrev cX4_rest : ByteArray := prog_1_method_15_code
def yX4_rest : MethodName := ⟨RX4, "rest", "()I"⟩
abbrev cX4_circle : ByteArray := prog_1_method_16_code
def yX4_circle : MethodName := ⟨RX4, "circle", "()I"⟩
abbrev cX4_spread : ByteArray := prog_1_method_17_code
def yX4_spread : MethodName := ⟨RX4, "spread", "(II)I"⟩
abbrev cX4_kindFor : ByteArray := prog_1_method_18_code
def yX4_kindFor : MethodName := ⟨RX4, "kindFor", "(II)I"⟩
abbrev cX4_bestForItself : ByteArray := prog_1_method_19_code
def yX4_bestForItself : MethodName := ⟨RX4, "bestForItself", "(III)I"⟩
abbrev cX4_tempted : ByteArray := prog_1_method_20_code
def yX4_tempted : MethodName := ⟨RX4, "tempted", "(I)I"⟩
abbrev cX4_missed : ByteArray := prog_1_method_21_code
def yX4_missed : MethodName := ⟨RX4, "missed", "(I)I"⟩
abbrev cX4_takenByAbsence : ByteArray := prog_1_method_22_code
def yX4_takenByAbsence : MethodName := ⟨RX4, "takenByAbsence", "(II)I"⟩
abbrev cX4_warmest : ByteArray := prog_1_method_23_code
def yX4_warmest : MethodName := ⟨RX4, "warmest", "(I)I"⟩
abbrev cX4_exchange : ByteArray := prog_1_method_24_code
def yX4_exchange : MethodName := ⟨RX4, "exchange", "(I)I"⟩
abbrev cX4_bestPair : ByteArray := prog_1_method_25_code
def yX4_bestPair : MethodName := ⟨RX4, "bestPair", "(I)I"⟩
abbrev cX4_deal : ByteArray := prog_1_method_26_code
def yX4_deal : MethodName := ⟨RX4, "deal", "(I)I"⟩
abbrev cX4_orders : ByteArray := prog_1_method_27_code
def yX4_orders : MethodName := ⟨RX4, "orders", "(II)I"⟩
abbrev cX4_dealKinds : ByteArray := prog_1_method_28_code
def yX4_dealKinds : MethodName := ⟨RX4, "dealKinds", "(II)V"⟩
abbrev cX4_memberOf : ByteArray := prog_1_method_29_code
def yX4_memberOf : MethodName := ⟨RX4, "memberOf", "(II)I"⟩
abbrev cX4_coal : ByteArray := prog_1_method_30_code
def yX4_coal : MethodName := ⟨RX4, "coal", "(II)I"⟩
abbrev cX4_wall : ByteArray := prog_1_method_31_code
def yX4_wall : MethodName := ⟨RX4, "wall", "(II)I"⟩
abbrev cX4_turn : ByteArray := prog_1_method_32_code
def yX4_turn : MethodName := ⟨RX4, "turn", "(II)I"⟩
abbrev cX4_damper : ByteArray := prog_1_method_33_code
def yX4_damper : MethodName := ⟨RX4, "damper", "(II)I"⟩
abbrev cX4_own : ByteArray := prog_1_method_34_code
def yX4_own : MethodName := ⟨RX4, "own", "(I)I"⟩
abbrev cX4_culprits : ByteArray := prog_1_method_35_code
def yX4_culprits : MethodName := ⟨RX4, "culprits", "()I"⟩
abbrev cX4_surely : ByteArray := prog_1_method_36_code
def yX4_surely : MethodName := ⟨RX4, "surely", "(I)I"⟩
abbrev cX4_travel : ByteArray := prog_1_method_37_code
def yX4_travel : MethodName := ⟨RX4, "travel", "(I)I"⟩
abbrev cX4_seed : ByteArray := prog_1_method_38_code
def yX4_seed : MethodName := ⟨RX4, "seed", "(I)I"⟩
abbrev cX4_feed : ByteArray := prog_1_method_39_code
def yX4_feed : MethodName := ⟨RX4, "feed", "(II)I"⟩
abbrev cX4_wipe : ByteArray := prog_1_method_40_code
def yX4_wipe : MethodName := ⟨RX4, "wipe", "()I"⟩
abbrev cX4_text : ByteArray := prog_1_method_41_code
def yX4_text : MethodName := ⟨RX4, "text", "()I"⟩
abbrev cX4_hold : ByteArray := prog_1_method_42_code
def yX4_hold : MethodName := ⟨RX4, "hold", "(II)I"⟩
abbrev cX4_as : ByteArray := prog_1_method_43_code
def yX4_as : MethodName := ⟨RX4, "as", "(II)I"⟩
abbrev cX4_sheet : ByteArray := prog_1_method_44_code
def yX4_sheet : MethodName := ⟨RX4, "sheet", "(III)I"⟩
abbrev cX4_write : ByteArray := prog_1_method_45_code
def yX4_write : MethodName := ⟨RX4, "write", "(III)I"⟩
abbrev cX4_copy : ByteArray := prog_1_method_46_code
def yX4_copy : MethodName := ⟨RX4, "copy", "(IIIII)I"⟩
abbrev cX4_load : ByteArray := prog_1_method_47_code
def yX4_load : MethodName := ⟨RX4, "load", "(I)I"⟩
abbrev cX4_judge : ByteArray := prog_1_method_48_code
def yX4_judge : MethodName := ⟨RX4, "judge", "(II)I"⟩
abbrev cX4_image : ByteArray := prog_1_method_49_code
def yX4_image : MethodName := ⟨RX4, "image", "()I"⟩
abbrev cX4_undo : ByteArray := prog_1_method_50_code
def yX4_undo : MethodName := ⟨RX4, "undo", "()I"⟩
abbrev cX4_tear : ByteArray := prog_1_method_51_code
def yX4_tear : MethodName := ⟨RX4, "tear", "()I"⟩
abbrev cX4_count : ByteArray := prog_1_method_52_code
def yX4_count : MethodName := ⟨RX4, "count", "(I)I"⟩
abbrev cX4_status : ByteArray := prog_1_method_53_code
def yX4_status : MethodName := ⟨RX4, "status", "(I)I"⟩
abbrev cX4_tell : ByteArray := prog_1_method_54_code
def yX4_tell : MethodName := ⟨RX4, "tell", "(I)I"⟩
abbrev cX4_findingOfHours : ByteArray := prog_1_method_55_code
def yX4_findingOfHours : MethodName := ⟨RX4, "findingOfHours", "(II)I"⟩
abbrev cX4_isLate : ByteArray := prog_1_method_56_code
def yX4_isLate : MethodName := ⟨RX4, "isLate", "()Z"⟩
abbrev cX4_findingOfRoomAhead : ByteArray := prog_1_method_57_code
def yX4_findingOfRoomAhead : MethodName := ⟨RX4, "findingOfRoomAhead", "(II)I"⟩
abbrev cX4_findingOfPairs : ByteArray := prog_1_method_58_code
def yX4_findingOfPairs : MethodName := ⟨RX4, "findingOfPairs", "(I)I"⟩
abbrev cX4_findingOfSheet : ByteArray := prog_1_method_59_code
def yX4_findingOfSheet : MethodName := ⟨RX4, "findingOfSheet", "(I)I"⟩
abbrev cX4_isKind : ByteArray := prog_1_method_60_code
def yX4_isKind : MethodName := ⟨RX4, "isKind", "(I)Z"⟩
abbrev cX4_isSpot : ByteArray := prog_1_method_61_code
def yX4_isSpot : MethodName := ⟨RX4, "isSpot", "(I)Z"⟩
abbrev cX4_isSheet : ByteArray := prog_1_method_62_code
def yX4_isSheet : MethodName := ⟨RX4, "isSheet", "(I)Z"⟩
abbrev cX4_startTrial : ByteArray := prog_1_method_63_code
def yX4_startTrial : MethodName := ⟨RX4, "startTrial", "()V"⟩
abbrev cX4_goAsItGoes : ByteArray := prog_1_method_64_code
def yX4_goAsItGoes : MethodName := ⟨RX4, "goAsItGoes", "(I)V"⟩
abbrev cX4_goWith : ByteArray := prog_1_method_65_code
def yX4_goWith : MethodName := ⟨RX4, "goWith", "(IIII)V"⟩
abbrev cX4_goWithMove : ByteArray := prog_1_method_66_code
def yX4_goWithMove : MethodName := ⟨RX4, "goWithMove", "(III)V"⟩
def RX5 : String := "WarmWallsModel"
def TX5 : u_T := fun k => match k with
  | 0 => ("WarmWallsModel", "now", "[I", true)
  | 1 => ("WarmWallsModel", "kept", "[I", true)
  | 2 => ("WarmWallsModel", "aside", "[I", true)
  | 3 => ("WarmWallsModel", "isKept", "Z", false)
  | 4 => ("WarmWallsModel", "found", "[I", true)
  | 5 => ("WarmWallsModel", "leasts", "[I", true)
  | 6 => ("WarmWallsModel", "mosts", "[I", true)
  | 7 => ("WarmWallsModel", "stoked", "[I", true)
  | 8 => ("WarmWallsModel", "wasGot", "[I", true)
  | 9 => ("WarmWallsModel", "warmthThen", "[I", true)
  | 10 => ("WarmWallsModel", "warmthAnyhow", "[I", true)
  | 11 => ("WarmWallsModel", "bestPair", "I", false)
  | 12 => ("WarmWallsModel", "bestLeast", "I", false)
  | 13 => ("WarmWallsModel", "dealMany", "I", false)
  | 14 => ("WarmWallsModel", "dealt", "[I", true)
  | 15 => ("WarmWallsModel", "inAll", "I", false)
  | 16 => ("WarmWallsModel", "inAny", "I", false)
  | 17 => ("WarmWallsModel", "leastSet", "I", false)
  | 18 => ("WarmWallsModel", "tape", "[I", true)
  | 19 => ("WarmWallsModel", "taped", "I", false)
  | 20 => ("WarmWallsModel", "begins", "I", false)
  | 21 => ("WarmWallsModel", "ends", "I", false)
  | 22 => ("WarmWallsModel", "sort", "I", false)
  | 23 => ("WarmWallsModel", "value", "I", false)
  | 24 => ("WarmWallsModel", "isWrong", "Z", false)
  | 25 => ("WarmWallsModel", "kinds", "[Ljava/lang/String;", true)
  | 26 => ("WarmWallsModel", "parts", "[Ljava/lang/String;", true)
  | 27 => ("WarmWallsModel", "items", "[I", true)
  | 28 => ("WarmWallsModel", "rowMany", "I", false)
  | 29 => ("WarmWallsModel", "itemMany", "I", false)
  | 30 => ("WarmWallsModel", "roomThen", "I", false)
  | 31 => ("WarmWallsModel", "widths", "[I", true)
  | 32 => ("WarmWallsModel", "sizes", "[I", true)
  | 33 => ("WarmWallsModel", "numbers", "[I", true)
  | _ => ("WarmWallsModel", "moved", "[I", true)
def tyX5 : Nat → FieldType := fun k => match k with
  | 0 => .array .int
  | 1 => .array .int
  | 2 => .array .int
  | 3 => .boolean
  | 4 => .array .int
  | 5 => .array .int
  | 6 => .array .int
  | 7 => .array .int
  | 8 => .array .int
  | 9 => .array .int
  | 10 => .array .int
  | 11 => .int
  | 12 => .int
  | 13 => .int
  | 14 => .array .int
  | 15 => .int
  | 16 => .int
  | 17 => .int
  | 18 => .array .int
  | 19 => .int
  | 20 => .int
  | 21 => .int
  | 22 => .int
  | 23 => .int
  | 24 => .boolean
  | 25 => .array (.object "java/lang/String")
  | 26 => .array (.object "java/lang/String")
  | 27 => .array .int
  | 28 => .int
  | 29 => .int
  | 30 => .int
  | 31 => .array .int
  | 32 => .array .int
  | 33 => .array .int
  | _ => .array .int
abbrev wsX50 : List Cond := u_ws RX5 TX5 35
theorem nmX5 : ∀ a, a < 35 → ∀ b, b < 35 → a ≠ b → (TX5 a).2.1 ≠ (TX5 b).2.1 := by decide +kernel
theorem tyX5_ok : ∀ k, k < 35 → parseFieldDescriptor (TX5 k).2.2.1 = some (tyX5 k) := by decide +kernel
abbrev cX5_init : ByteArray := prog_7_method_1_code
def yX5_init : MethodName := ⟨RX5, "<init>", "()V"⟩
abbrev cX5_finding : ByteArray := prog_7_method_2_code
def yX5_finding : MethodName := ⟨RX5, "finding", "(I)I"⟩
abbrev cX5_within : ByteArray := prog_7_method_3_code
def yX5_within : MethodName := ⟨RX5, "within", "(III)Z"⟩
abbrev cX5_become : ByteArray := prog_7_method_4_code
def yX5_become : MethodName := ⟨RX5, "become", "(II)I"⟩
abbrev cX5_copyRow : ByteArray := prog_7_method_5_code
def yX5_copyRow : MethodName := ⟨RX5, "copyRow", "([I[I)V"⟩
abbrev cX5_putBack : ByteArray := prog_7_method_6_code
def yX5_putBack : MethodName := ⟨RX5, "putBack", "(I)I"⟩
abbrev cX5_has : ByteArray := prog_7_method_7_code
def yX5_has : MethodName := ⟨RX5, "has", "(II)Z"⟩
abbrev cX5_isRoom : ByteArray := prog_7_method_8_code
def yX5_isRoom : MethodName := ⟨RX5, "isRoom", "(I)Z"⟩
abbrev cX5_isKind : ByteArray := prog_7_method_9_code
def yX5_isKind : MethodName := ⟨RX5, "isKind", "(I)Z"⟩
abbrev cX5_at : ByteArray := prog_7_method_10_code
def yX5_at : MethodName := ⟨RX5, "at", "(II)I"⟩
abbrev cX5_roomIs : ByteArray := prog_7_method_11_code
def yX5_roomIs : MethodName := ⟨RX5, "roomIs", "(II)I"⟩
abbrev cX5_comes : ByteArray := prog_7_method_12_code
def yX5_comes : MethodName := ⟨RX5, "comes", "(I)I"⟩
abbrev cX5_room : ByteArray := prog_7_method_13_code
def yX5_room : MethodName := ⟨RX5, "room", "(I)I"⟩
abbrev cX5_above : ByteArray := prog_7_method_14_code
def yX5_above : MethodName := ⟨RX5, "above", "(I)I"⟩
abbrev cX5_isUnder : ByteArray := prog_7_method_15_code
def yX5_isUnder : MethodName := ⟨RX5, "isUnder", "(II)Z"⟩
abbrev cX5_wants : ByteArray := prog_7_method_16_code
def yX5_wants : MethodName := ⟨RX5, "wants", "(I)I"⟩
abbrev cX5_of : ByteArray := prog_7_method_17_code
def yX5_of : MethodName := ⟨RX5, "of", "(II)I"⟩
abbrev cX5_change : ByteArray := prog_7_method_18_code
def yX5_change : MethodName := ⟨RX5, "change", "(III)I"⟩
abbrev cX5_out : ByteArray := prog_7_method_19_code
def yX5_out : MethodName := ⟨RX5, "out", "(I)I"⟩
abbrev cX5_heatersOf : ByteArray := prog_7_method_20_code
def yX5_heatersOf : MethodName := ⟨RX5, "heatersOf", "(I)I"⟩
abbrev cX5_heaters : ByteArray := prog_7_method_21_code
def yX5_heaters : MethodName := ⟨RX5, "heaters", "(I)I"⟩
abbrev cX5_reach : ByteArray := prog_7_method_22_code
def yX5_reach : MethodName := ⟨RX5, "reach", "(I)I"⟩
abbrev cX5_swap : ByteArray := prog_7_method_23_code
def yX5_swap : MethodName := ⟨RX5, "swap", "(III)V"⟩
abbrev cX5_moved : ByteArray := prog_7_method_24_code
def yX5_moved : MethodName := ⟨RX5, "moved", "(II)I"⟩
abbrev cX5_move : ByteArray := prog_7_method_25_code
def yX5_move : MethodName := ⟨RX5, "move", "(II)I"⟩
abbrev cX5_hour : ByteArray := prog_7_method_26_code
def yX5_hour : MethodName := ⟨RX5, "hour", "()I"⟩
abbrev cX5_gets : ByteArray := prog_7_method_27_code
def yX5_gets : MethodName := ⟨RX5, "gets", "(I)I"⟩
abbrev cX5_hoursGo : ByteArray := prog_7_method_28_code
def yX5_hoursGo : MethodName := ⟨RX5, "hoursGo", "(I)I"⟩
abbrev cX5_isTooLate : ByteArray := prog_7_method_29_code
def yX5_isTooLate : MethodName := ⟨RX5, "isTooLate", "(I)Z"⟩
abbrev cX5_hours : ByteArray := prog_7_method_30_code
def yX5_hours : MethodName := ⟨RX5, "hours", "(I)I"⟩
abbrev cX5_colds : ByteArray := prog_7_method_31_code
def yX5_colds : MethodName := ⟨RX5, "colds", "()I"⟩
abbrev cX5_sum : ByteArray := prog_7_method_32_code
def yX5_sum : MethodName := ⟨RX5, "sum", "(I)I"⟩
abbrev cX5_coldest : ByteArray := prog_7_method_33_code
def yX5_coldest : MethodName := ⟨RX5, "coldest", "()I"⟩
abbrev cX5_leastWarmth : ByteArray := prog_7_method_34_code
def yX5_leastWarmth : MethodName := ⟨RX5, "leastWarmth", "()I"⟩
abbrev cX5_now : ByteArray := prog_7_method_35_code
def yX5_now : MethodName := ⟨RX5, "now", "(I)I"⟩
abbrev cX5_ahead : ByteArray := prog_7_method_36_code
def yX5_ahead : MethodName := ⟨RX5, "ahead", "(II)I"⟩
abbrev cX5_isLate : ByteArray := prog_7_method_37_code
def yX5_isLate : MethodName := ⟨RX5, "isLate", "()Z"⟩
abbrev cX5_firstBelow : ByteArray := prog_7_method_38_code
def yX5_firstBelow : MethodName := ⟨RX5, "firstBelow", "(III)I"⟩
abbrev cX5_cold : ByteArray := prog_7_method_39_code
def yX5_cold : MethodName := ⟨RX5, "cold", "(I)I"⟩
abbrev cX5_spent : ByteArray := prog_7_method_40_code
def yX5_spent : MethodName := ⟨RX5, "spent", "(I)I"⟩
abbrev cX5_gave : ByteArray := prog_7_method_41_code
def yX5_gave : MethodName := ⟨RX5, "gave", "()I"⟩
abbrev cX5_rest : ByteArray := prog_7_method_42_code
def yX5_rest : MethodName := ⟨RX5, "rest", "()I"⟩
abbrev cX5_circle : ByteArray := prog_7_method_43_code
def yX5_circle : MethodName := ⟨RX5, "circle", "()I"⟩
abbrev cX5_live : ByteArray := prog_7_method_44_code
def yX5_live : MethodName := ⟨RX5, "live", "(I)V"⟩
abbrev cX5_liveAnyhow : ByteArray := prog_7_method_45_code
def yX5_liveAnyhow : MethodName := ⟨RX5, "liveAnyhow", "(I)V"⟩
abbrev cX5_refuses : ByteArray := prog_7_method_46_code
def yX5_refuses : MethodName := ⟨RX5, "refuses", "(II)I"⟩
abbrev cX5_refusesHours : ByteArray := prog_7_method_47_code
def yX5_refusesHours : MethodName := ⟨RX5, "refusesHours", "(II)I"⟩
abbrev cX5_spread : ByteArray := prog_7_method_48_code
def yX5_spread : MethodName := ⟨RX5, "spread", "(II)I"⟩
abbrev cX5_bestOf : ByteArray := prog_7_method_49_code
def yX5_bestOf : MethodName := ⟨RX5, "bestOf", "(IIII)I"⟩
abbrev cX5_kindFor : ByteArray := prog_7_method_50_code
def yX5_kindFor : MethodName := ⟨RX5, "kindFor", "(II)I"⟩
abbrev cX5_tempted : ByteArray := prog_7_method_51_code
def yX5_tempted : MethodName := ⟨RX5, "tempted", "(I)I"⟩
abbrev cX5_missed : ByteArray := prog_7_method_52_code
def yX5_missed : MethodName := ⟨RX5, "missed", "(I)I"⟩
abbrev cX5_leastThen : ByteArray := prog_7_method_53_code
def yX5_leastThen : MethodName := ⟨RX5, "leastThen", "()I"⟩
abbrev cX5_refusesPairs : ByteArray := prog_7_method_54_code
def yX5_refusesPairs : MethodName := ⟨RX5, "refusesPairs", "(I)I"⟩
abbrev cX5_findPair : ByteArray := prog_7_method_55_code
def yX5_findPair : MethodName := ⟨RX5, "findPair", "(I)V"⟩
abbrev cX5_warmest : ByteArray := prog_7_method_56_code
def yX5_warmest : MethodName := ⟨RX5, "warmest", "(I)I"⟩
abbrev cX5_exchange : ByteArray := prog_7_method_57_code
def yX5_exchange : MethodName := ⟨RX5, "exchange", "(I)I"⟩
abbrev cX5_deal : ByteArray := prog_7_method_58_code
def yX5_deal : MethodName := ⟨RX5, "deal", "(I)I"⟩
abbrev cX5_dealOn : ByteArray := prog_7_method_59_code
def yX5_dealOn : MethodName := ⟨RX5, "dealOn", "(IIII)V"⟩
abbrev cX5_orders : ByteArray := prog_7_method_60_code
def yX5_orders : MethodName := ⟨RX5, "orders", "(II)I"⟩
abbrev cX5_leastFor : ByteArray := prog_7_method_61_code
def yX5_leastFor : MethodName := ⟨RX5, "leastFor", "(IIIIII)I"⟩
abbrev cX5_coal : ByteArray := prog_7_method_62_code
def yX5_coal : MethodName := ⟨RX5, "coal", "(II)I"⟩
abbrev cX5_wall : ByteArray := prog_7_method_63_code
def yX5_wall : MethodName := ⟨RX5, "wall", "(II)I"⟩
abbrev cX5_turn : ByteArray := prog_7_method_64_code
def yX5_turn : MethodName := ⟨RX5, "turn", "(II)I"⟩
abbrev cX5_damper : ByteArray := prog_7_method_65_code
def yX5_damper : MethodName := ⟨RX5, "damper", "(II)I"⟩
abbrev cX5_own : ByteArray := prog_7_method_66_code
def yX5_own : MethodName := ⟨RX5, "own", "(I)I"⟩
abbrev cX5_fits : ByteArray := prog_7_method_67_code
def yX5_fits : MethodName := ⟨RX5, "fits", "(I)Z"⟩
abbrev cX5_findCulprits : ByteArray := prog_7_method_68_code
def yX5_findCulprits : MethodName := ⟨RX5, "findCulprits", "()I"⟩
abbrev cX5_culprits : ByteArray := prog_7_method_69_code
def yX5_culprits : MethodName := ⟨RX5, "culprits", "()I"⟩
abbrev cX5_surely : ByteArray := prog_7_method_70_code
def yX5_surely : MethodName := ⟨RX5, "surely", "(I)I"⟩
abbrev cX5_drawn : ByteArray := prog_7_method_71_code
def yX5_drawn : MethodName := ⟨RX5, "drawn", "(I)I"⟩
abbrev cX5_aways : ByteArray := prog_7_method_72_code
def yX5_aways : MethodName := ⟨RX5, "aways", "()I"⟩
abbrev cX5_travel : ByteArray := prog_7_method_73_code
def yX5_travel : MethodName := ⟨RX5, "travel", "(I)I"⟩
abbrev cX5_seed : ByteArray := prog_7_method_74_code
def yX5_seed : MethodName := ⟨RX5, "seed", "(I)I"⟩
abbrev cX5_feed : ByteArray := prog_7_method_75_code
def yX5_feed : MethodName := ⟨RX5, "feed", "(II)I"⟩
abbrev cX5_wipe : ByteArray := prog_7_method_76_code
def yX5_wipe : MethodName := ⟨RX5, "wipe", "()I"⟩
abbrev cX5_byteAt : ByteArray := prog_7_method_77_code
def yX5_byteAt : MethodName := ⟨RX5, "byteAt", "(I)I"⟩
abbrev cX5_next : ByteArray := prog_7_method_78_code
def yX5_next : MethodName := ⟨RX5, "next", "()V"⟩
abbrev cX5_isWord : ByteArray := prog_7_method_79_code
def yX5_isWord : MethodName := ⟨RX5, "isWord", "(Ljava/lang/String;)Z"⟩
abbrev cX5_must : ByteArray := prog_7_method_80_code
def yX5_must : MethodName := ⟨RX5, "must", "(Z)V"⟩
abbrev cX5_number : ByteArray := prog_7_method_81_code
def yX5_number : MethodName := ⟨RX5, "number", "(II)I"⟩
abbrev cX5_row : ByteArray := prog_7_method_82_code
def yX5_row : MethodName := ⟨RX5, "row", "(III)V"⟩
abbrev cX5_kindTold : ByteArray := prog_7_method_83_code
def yX5_kindTold : MethodName := ⟨RX5, "kindTold", "()I"⟩
abbrev cX5_isNext : ByteArray := prog_7_method_84_code
def yX5_isNext : MethodName := ⟨RX5, "isNext", "(Ljava/lang/String;)Z"⟩
abbrev cX5_readItem : ByteArray := prog_7_method_85_code
def yX5_readItem : MethodName := ⟨RX5, "readItem", "()V"⟩
abbrev cX5_isSo : ByteArray := prog_7_method_86_code
def yX5_isSo : MethodName := ⟨RX5, "isSo", "(I)I"⟩
abbrev cX5_text : ByteArray := prog_7_method_87_code
def yX5_text : MethodName := ⟨RX5, "text", "()I"⟩
abbrev cX5_isSpot : ByteArray := prog_7_method_88_code
def yX5_isSpot : MethodName := ⟨RX5, "isSpot", "(I)Z"⟩
abbrev cX5_hold : ByteArray := prog_7_method_89_code
def yX5_hold : MethodName := ⟨RX5, "hold", "(II)I"⟩
abbrev cX5_as : ByteArray := prog_7_method_90_code
def yX5_as : MethodName := ⟨RX5, "as", "(II)I"⟩
abbrev cX5_isSheet : ByteArray := prog_7_method_91_code
def yX5_isSheet : MethodName := ⟨RX5, "isSheet", "(I)Z"⟩
abbrev cX5_cutTo : ByteArray := prog_7_method_92_code
def yX5_cutTo : MethodName := ⟨RX5, "cutTo", "(II)I"⟩
abbrev cX5_sheet : ByteArray := prog_7_method_93_code
def yX5_sheet : MethodName := ⟨RX5, "sheet", "(III)I"⟩
abbrev cX5_write : ByteArray := prog_7_method_94_code
def yX5_write : MethodName := ⟨RX5, "write", "(III)I"⟩
abbrev cX5_copy : ByteArray := prog_7_method_95_code
def yX5_copy : MethodName := ⟨RX5, "copy", "(IIIII)I"⟩
abbrev cX5_load : ByteArray := prog_7_method_96_code
def yX5_load : MethodName := ⟨RX5, "load", "(I)I"⟩
abbrev cX5_judge : ByteArray := prog_7_method_97_code
def yX5_judge : MethodName := ⟨RX5, "judge", "(II)I"⟩
abbrev cX5_image : ByteArray := prog_7_method_98_code
def yX5_image : MethodName := ⟨RX5, "image", "()I"⟩
abbrev cX5_undo : ByteArray := prog_7_method_99_code
def yX5_undo : MethodName := ⟨RX5, "undo", "()I"⟩
abbrev cX5_tear : ByteArray := prog_7_method_100_code
def yX5_tear : MethodName := ⟨RX5, "tear", "()I"⟩
abbrev cX5_count : ByteArray := prog_7_method_101_code
def yX5_count : MethodName := ⟨RX5, "count", "(I)I"⟩
abbrev cX5_status : ByteArray := prog_7_method_102_code
def yX5_status : MethodName := ⟨RX5, "status", "(I)I"⟩
def RJ9 : String := "java/lang/Math"
abbrev cJ9_max_7cf53 : ByteArray := prog_8_method_65_code
def yJ9_max_7cf53 : MethodName := ⟨RJ9, "max", "(II)I"⟩
abbrev cJ9_min_7cf53 : ByteArray := prog_8_method_69_code
def yJ9_min_7cf53 : MethodName := ⟨RJ9, "min", "(II)I"⟩
def RJ0 : String := "java/lang/String"
abbrev cJ0_length_8abf5 : ByteArray := prog_9_method_54_code
def yJ0_length_8abf5 : MethodName := ⟨RJ0, "length", "()I"⟩
abbrev cJ0_charAt_5068e : ByteArray := prog_9_method_56_code
def yJ0_charAt_5068e : MethodName := ⟨RJ0, "charAt", "(I)C"⟩
abbrev cJ0_coder_7d493 : ByteArray := prog_9_method_152_code
def yJ0_coder_7d493 : MethodName := ⟨RJ0, "coder", "()B"⟩
abbrev cJ0_isLatin1_aae02 : ByteArray := prog_9_method_154_code
def yJ0_isLatin1_aae02 : MethodName := ⟨RJ0, "isLatin1", "()Z"⟩
abbrev cJ0_checkIndex_df160 : ByteArray := prog_9_method_155_code
def yJ0_checkIndex_df160 : MethodName := ⟨RJ0, "checkIndex", "(II)V"⟩
def RJ1 : String := "java/lang/StringLatin1"
abbrev cJ1_charAt_3b067 : ByteArray := prog_10_method_2_code
def yJ1_charAt_3b067 : MethodName := ⟨RJ1, "charAt", "([BI)C"⟩
def RJ2 : String := "java/lang/StringUTF16"
abbrev cJ2_getChar_3b067 : ByteArray := prog_11_method_5_code
def yJ2_getChar_3b067 : MethodName := ⟨RJ2, "getChar", "([BI)C"⟩
abbrev cJ2_length_9d52b : ByteArray := prog_11_method_6_code
def yJ2_length_9d52b : MethodName := ⟨RJ2, "length", "([B)I"⟩
abbrev cJ2_charAt_3b067 : ByteArray := prog_11_method_83_code
def yJ2_charAt_3b067 : MethodName := ⟨RJ2, "charAt", "([BI)C"⟩
abbrev cJ2_checkIndex_2214a : ByteArray := prog_11_method_91_code
def yJ2_checkIndex_2214a : MethodName := ⟨RJ2, "checkIndex", "(I[B)V"⟩
def RJ10 : String := "java/lang/System"
def RJ7 : String := "java/util/Arrays"
abbrev cJ7_fill_53178 : ByteArray := prog_13_method_103_code
def yJ7_fill_53178 : MethodName := ⟨RJ7, "fill", "([II)V"⟩
def RJ3 : String := "jdk/internal/util/Preconditions"
abbrev cJ3_checkIndex_8e157 : ByteArray := prog_14_method_11_code
def yJ3_checkIndex_8e157 : MethodName := ⟨RJ3, "checkIndex", "(IILjava/util/function/BiFunction;)I"⟩
def RL : String := "WarmWallsLaw"
abbrev cL_law : ByteArray := code
def yL_law : MethodName := ⟨RL, "law", "([I)Z"⟩
abbrev vwCl : List vw_C := [(RX0, TX0, 14), (RX1, TX1, 3), (RX2, TX2, 2), (RX3, TX3, 6), (RX4, TX4, 9), (RX5, TX5, 35)]

def gtbl : List Cond := lw_tbl.filter goodWord
theorem tb_s {w : Cond} (i : Nat) (h : (k2_sels lw_privs)[i]? = some w) (hg : goodWord w = true := by rfl) : w ∈ gtbl := List.mem_filter.mpr ⟨List.mem_append_left _ (List.mem_of_getElem? h), hg⟩
theorem tb_1 {w : Cond} (i : Nat) (h : tables_1_1[i]? = some w) (hg : goodWord w = true := by rfl) : w ∈ gtbl := List.mem_filter.mpr ⟨List.mem_append_right _ (List.mem_append_left _ (List.mem_of_getElem? h)), hg⟩
theorem tb_2 {w : Cond} (i : Nat) (h : tables_1_2[i]? = some w) (hg : goodWord w = true := by rfl) : w ∈ gtbl := List.mem_filter.mpr ⟨List.mem_append_right _ (List.mem_append_right _ (List.mem_append_left _ (List.mem_of_getElem? h))), hg⟩
theorem tb_3 {w : Cond} (i : Nat) (h : tables_1_3[i]? = some w) (hg : goodWord w = true := by rfl) : w ∈ gtbl := List.mem_filter.mpr ⟨List.mem_append_right _ (List.mem_append_right _ (List.mem_append_right _ (List.mem_append_left _ (List.mem_of_getElem? h)))), hg⟩
theorem tb_4 {w : Cond} (i : Nat) (h : tables_1_4[i]? = some w) (hg : goodWord w = true := by rfl) : w ∈ gtbl := List.mem_filter.mpr ⟨List.mem_append_right _ (List.mem_append_right _ (List.mem_append_right _ (List.mem_append_right _ (List.mem_append_left _ (List.mem_of_getElem? h))))), hg⟩
theorem tb_5 {w : Cond} (i : Nat) (h : tables_1_5[i]? = some w) (hg : goodWord w = true := by rfl) : w ∈ gtbl := List.mem_filter.mpr ⟨List.mem_append_right _ (List.mem_append_right _ (List.mem_append_right _ (List.mem_append_right _ (List.mem_append_right _ (List.mem_append_left _ (List.mem_of_getElem? h)))))), hg⟩
theorem tb_6 {w : Cond} (i : Nat) (h : tables_1_6[i]? = some w) (hg : goodWord w = true := by rfl) : w ∈ gtbl := List.mem_filter.mpr ⟨List.mem_append_right _ (List.mem_append_right _ (List.mem_append_right _ (List.mem_append_right _ (List.mem_append_right _ (List.mem_append_right _ (List.mem_of_getElem? h)))))), hg⟩
theorem tb_all {ws : List Cond} (ps : List Nat) (h : ws = ps.filterMap (fun i => lw_tbl[i]?)) (hg : ws.all goodWord = true) : ∀ w ∈ ws, w ∈ gtbl := fun w hw => by
  have hg2 := List.all_eq_true.mp hg w hw
  rw [h] at hw
  obtain ⟨i, -, hi⟩ := List.mem_filterMap.mp hw
  exact List.mem_filter.mpr ⟨List.mem_of_getElem? hi, hg2⟩
theorem inX0 : ∀ w ∈ wsX00, w ∈ gtbl := tb_all [129, 131, 133, 135, 137, 139, 141, 143, 145, 147, 149, 151, 153, 155] (by decide +kernel) (by decide +kernel)
theorem inX1 : ∀ w ∈ wsX10, w ∈ gtbl := tb_all [215, 217, 219] (by decide +kernel) (by decide +kernel)
theorem inX2 : ∀ w ∈ wsX20, w ∈ gtbl := tb_all [175, 177] (by decide +kernel) (by decide +kernel)
theorem inX3 : ∀ w ∈ wsX30, w ∈ gtbl := tb_all [189, 191, 193, 195, 197, 199] (by decide +kernel) (by decide +kernel)
theorem inX4 : ∀ w ∈ wsX40, w ∈ gtbl := tb_all [231, 233, 235, 237, 239, 241, 243, 245, 247] (by decide +kernel) (by decide +kernel)
theorem inX5 : ∀ w ∈ wsX50, w ∈ gtbl := tb_all [837, 839, 841, 843, 845, 847, 849, 851, 853, 855, 857, 859, 861, 863, 865, 867, 869, 871, 873, 875, 877, 879, 881, 883, 885, 887, 889, 891, 893, 895, 897, 899, 901, 903, 905] (by decide +kernel) (by decide +kernel)
end
section
theorem dX0_init_0 : decode cX0_init 0 = .ok (.aload_n 0, 1) := by decide +kernel
theorem dX0_init_1 : decode cX0_init 1 = .ok (.invokespecial 3, 3) := by decide +kernel
theorem dX0_init_4 : decode cX0_init 4 = .ok (.aload_n 0, 1) := by decide +kernel
theorem dX0_init_5 : decode cX0_init 5 = .ok (.bipush 20, 2) := by decide +kernel
theorem dX0_init_7 : decode cX0_init 7 = .ok (.putfield 9, 3) := by decide +kernel
theorem dX0_init_10 : decode cX0_init 10 = .ok (.aload_n 0, 1) := by decide +kernel
theorem dX0_init_11 : decode cX0_init 11 = .ok (.iconst 1, 1) := by decide +kernel
theorem dX0_init_12 : decode cX0_init 12 = .ok (.putfield 15, 3) := by decide +kernel
theorem dX0_init_15 : decode cX0_init 15 = .ok (.aload_n 0, 1) := by decide +kernel
theorem dX0_init_16 : decode cX0_init 16 = .ok (.bipush 8, 2) := by decide +kernel
theorem dX0_init_18 : decode cX0_init 18 = .ok (.newarray .int, 2) := by decide +kernel
theorem dX0_init_20 : decode cX0_init 20 = .ok (.putfield 18, 3) := by decide +kernel
theorem dX0_init_23 : decode cX0_init 23 = .ok (.aload_n 0, 1) := by decide +kernel
theorem dX0_init_24 : decode cX0_init 24 = .ok (.bipush 8, 2) := by decide +kernel
theorem dX0_init_26 : decode cX0_init 26 = .ok (.newarray .int, 2) := by decide +kernel
theorem dX0_init_28 : decode cX0_init 28 = .ok (.putfield 22, 3) := by decide +kernel
theorem dX0_init_31 : decode cX0_init 31 = .ok (.aload_n 0, 1) := by decide +kernel
theorem dX0_init_32 : decode cX0_init 32 = .ok (.bipush 8, 2) := by decide +kernel
theorem dX0_init_34 : decode cX0_init 34 = .ok (.newarray .int, 2) := by decide +kernel
theorem dX0_init_36 : decode cX0_init 36 = .ok (.putfield 25, 3) := by decide +kernel
theorem dX0_init_39 : decode cX0_init 39 = .ok (.aload_n 0, 1) := by decide +kernel
theorem dX0_init_40 : decode cX0_init 40 = .ok (.bipush 8, 2) := by decide +kernel
theorem dX0_init_42 : decode cX0_init 42 = .ok (.newarray .int, 2) := by decide +kernel
theorem dX0_init_44 : decode cX0_init 44 = .ok (.putfield 28, 3) := by decide +kernel
theorem dX0_init_47 : decode cX0_init 47 = .ok (.aload_n 0, 1) := by decide +kernel
theorem dX0_init_48 : decode cX0_init 48 = .ok (.bipush 8, 2) := by decide +kernel
theorem dX0_init_50 : decode cX0_init 50 = .ok (.newarray .int, 2) := by decide +kernel
theorem dX0_init_52 : decode cX0_init 52 = .ok (.putfield 31, 3) := by decide +kernel
theorem dX0_init_55 : decode cX0_init 55 = .ok (.aload_n 0, 1) := by decide +kernel
theorem dX0_init_56 : decode cX0_init 56 = .ok (.bipush 8, 2) := by decide +kernel
theorem dX0_init_58 : decode cX0_init 58 = .ok (.newarray .int, 2) := by decide +kernel
theorem dX0_init_60 : decode cX0_init 60 = .ok (.putfield 34, 3) := by decide +kernel
theorem dX0_init_63 : decode cX0_init 63 = .ok (.aload_n 0, 1) := by decide +kernel
theorem dX0_init_64 : decode cX0_init 64 = .ok (.bipush 8, 2) := by decide +kernel
theorem dX0_init_66 : decode cX0_init 66 = .ok (.newarray .int, 2) := by decide +kernel
theorem dX0_init_68 : decode cX0_init 68 = .ok (.putfield 37, 3) := by decide +kernel
theorem dX0_init_71 : decode cX0_init 71 = .ok (.aload_n 0, 1) := by decide +kernel
theorem dX0_init_72 : decode cX0_init 72 = .ok (.bipush 8, 2) := by decide +kernel
theorem dX0_init_74 : decode cX0_init 74 = .ok (.newarray .int, 2) := by decide +kernel
theorem dX0_init_76 : decode cX0_init 76 = .ok (.putfield 40, 3) := by decide +kernel
theorem dX0_init_79 : decode cX0_init 79 = .ok (.aload_n 0, 1) := by decide +kernel
theorem dX0_init_80 : decode cX0_init 80 = .ok (.bipush 8, 2) := by decide +kernel
theorem dX0_init_82 : decode cX0_init 82 = .ok (.newarray .int, 2) := by decide +kernel
theorem dX0_init_84 : decode cX0_init 84 = .ok (.putfield 43, 3) := by decide +kernel
theorem dX0_init_87 : decode cX0_init 87 = .ok (.aload_n 0, 1) := by decide +kernel
theorem dX0_init_88 : decode cX0_init 88 = .ok (.bipush 10, 2) := by decide +kernel
theorem dX0_init_90 : decode cX0_init 90 = .ok (.newarray .int, 2) := by decide +kernel
theorem dX0_init_92 : decode cX0_init 92 = .ok (.putfield 46, 3) := by decide +kernel
theorem dX0_init_95 : decode cX0_init 95 = .ok (.aload_n 0, 1) := by decide +kernel
theorem dX0_init_96 : decode cX0_init 96 = .ok (.getfield 46, 3) := by decide +kernel
theorem dX0_init_99 : decode cX0_init 99 = .ok (.iconst (-1), 1) := by decide +kernel
theorem dX0_init_100 : decode cX0_init 100 = .ok (.invokestatic 49, 3) := by decide +kernel
theorem dX0_init_103 : decode cX0_init 103 = .ok (.return_, 1) := by decide +kernel
theorem dX0_has_0 : decode cX0_has 0 = .ok (.iload_n 1, 1) := by decide +kernel
theorem dX0_has_1 : decode cX0_has 1 = .ok (.ifCond .lt 15, 3) := by decide +kernel
theorem dX0_has_4 : decode cX0_has 4 = .ok (.iload_n 1, 1) := by decide +kernel
theorem dX0_has_5 : decode cX0_has 5 = .ok (.aload_n 0, 1) := by decide +kernel
theorem dX0_has_6 : decode cX0_has 6 = .ok (.getfield 55, 3) := by decide +kernel
theorem dX0_has_9 : decode cX0_has 9 = .ok (.if_icmp .ge 7, 3) := by decide +kernel
theorem dX0_has_12 : decode cX0_has 12 = .ok (.iconst 1, 1) := by decide +kernel
theorem dX0_has_13 : decode cX0_has 13 = .ok (.goto 4, 3) := by decide +kernel
theorem dX0_has_16 : decode cX0_has 16 = .ok (.iconst 0, 1) := by decide +kernel
theorem dX0_has_17 : decode cX0_has 17 = .ok (.ireturn, 1) := by decide +kernel
theorem dX0_addRoom_0 : decode cX0_addRoom 0 = .ok (.aload_n 0, 1) := by decide +kernel
theorem dX0_addRoom_1 : decode cX0_addRoom 1 = .ok (.getfield 55, 3) := by decide +kernel
theorem dX0_addRoom_4 : decode cX0_addRoom 4 = .ok (.istore_n 2, 1) := by decide +kernel
theorem dX0_addRoom_5 : decode cX0_addRoom 5 = .ok (.iload_n 2, 1) := by decide +kernel
theorem dX0_addRoom_6 : decode cX0_addRoom 6 = .ok (.ifCond .lt 9, 3) := by decide +kernel
theorem dX0_addRoom_9 : decode cX0_addRoom 9 = .ok (.iload_n 2, 1) := by decide +kernel
theorem dX0_addRoom_10 : decode cX0_addRoom 10 = .ok (.bipush 8, 2) := by decide +kernel
theorem dX0_addRoom_12 : decode cX0_addRoom 12 = .ok (.if_icmp .lt 5, 3) := by decide +kernel
theorem dX0_addRoom_15 : decode cX0_addRoom 15 = .ok (.iconst (-1), 1) := by decide +kernel
theorem dX0_addRoom_16 : decode cX0_addRoom 16 = .ok (.ireturn, 1) := by decide +kernel
theorem dX0_addRoom_17 : decode cX0_addRoom 17 = .ok (.aload_n 0, 1) := by decide +kernel
theorem dX0_addRoom_18 : decode cX0_addRoom 18 = .ok (.getfield 18, 3) := by decide +kernel
theorem dX0_addRoom_21 : decode cX0_addRoom 21 = .ok (.iload_n 2, 1) := by decide +kernel
theorem dX0_addRoom_22 : decode cX0_addRoom 22 = .ok (.iload_n 1, 1) := by decide +kernel
theorem dX0_addRoom_23 : decode cX0_addRoom 23 = .ok (.iastore, 1) := by decide +kernel
theorem dX0_addRoom_24 : decode cX0_addRoom 24 = .ok (.aload_n 0, 1) := by decide +kernel
theorem dX0_addRoom_25 : decode cX0_addRoom 25 = .ok (.getfield 22, 3) := by decide +kernel
theorem dX0_addRoom_28 : decode cX0_addRoom 28 = .ok (.iload_n 2, 1) := by decide +kernel
theorem dX0_addRoom_29 : decode cX0_addRoom 29 = .ok (.bipush 100, 2) := by decide +kernel
theorem dX0_addRoom_31 : decode cX0_addRoom 31 = .ok (.iastore, 1) := by decide +kernel
theorem dX0_addRoom_32 : decode cX0_addRoom 32 = .ok (.aload_n 0, 1) := by decide +kernel
theorem dX0_addRoom_33 : decode cX0_addRoom 33 = .ok (.getfield 25, 3) := by decide +kernel
theorem dX0_addRoom_36 : decode cX0_addRoom 36 = .ok (.iload_n 2, 1) := by decide +kernel
theorem dX0_addRoom_37 : decode cX0_addRoom 37 = .ok (.bipush 50, 2) := by decide +kernel
theorem dX0_addRoom_39 : decode cX0_addRoom 39 = .ok (.iastore, 1) := by decide +kernel
theorem dX0_addRoom_40 : decode cX0_addRoom 40 = .ok (.aload_n 0, 1) := by decide +kernel
theorem dX0_addRoom_41 : decode cX0_addRoom 41 = .ok (.getfield 28, 3) := by decide +kernel
theorem dX0_addRoom_44 : decode cX0_addRoom 44 = .ok (.iload_n 2, 1) := by decide +kernel
theorem dX0_addRoom_45 : decode cX0_addRoom 45 = .ok (.bipush 10, 2) := by decide +kernel
theorem dX0_addRoom_47 : decode cX0_addRoom 47 = .ok (.iastore, 1) := by decide +kernel
theorem dX0_addRoom_48 : decode cX0_addRoom 48 = .ok (.aload_n 0, 1) := by decide +kernel
theorem dX0_addRoom_49 : decode cX0_addRoom 49 = .ok (.getfield 31, 3) := by decide +kernel
theorem dX0_addRoom_52 : decode cX0_addRoom 52 = .ok (.iload_n 2, 1) := by decide +kernel
theorem dX0_addRoom_53 : decode cX0_addRoom 53 = .ok (.iload_n 2, 1) := by decide +kernel
theorem dX0_addRoom_54 : decode cX0_addRoom 54 = .ok (.iconst 1, 1) := by decide +kernel
theorem dX0_addRoom_55 : decode cX0_addRoom 55 = .ok (.iadd, 1) := by decide +kernel
theorem dX0_addRoom_56 : decode cX0_addRoom 56 = .ok (.bipush 8, 2) := by decide +kernel
theorem dX0_addRoom_58 : decode cX0_addRoom 58 = .ok (.irem, 1) := by decide +kernel
theorem dX0_addRoom_59 : decode cX0_addRoom 59 = .ok (.iastore, 1) := by decide +kernel
theorem dX0_addRoom_60 : decode cX0_addRoom 60 = .ok (.aload_n 0, 1) := by decide +kernel
theorem dX0_addRoom_61 : decode cX0_addRoom 61 = .ok (.getfield 34, 3) := by decide +kernel
theorem dX0_addRoom_64 : decode cX0_addRoom 64 = .ok (.iload_n 2, 1) := by decide +kernel
theorem dX0_addRoom_65 : decode cX0_addRoom 65 = .ok (.iconst 0, 1) := by decide +kernel
theorem dX0_addRoom_66 : decode cX0_addRoom 66 = .ok (.iastore, 1) := by decide +kernel
theorem dX0_addRoom_67 : decode cX0_addRoom 67 = .ok (.aload_n 0, 1) := by decide +kernel
theorem dX0_addRoom_68 : decode cX0_addRoom 68 = .ok (.getfield 37, 3) := by decide +kernel
theorem dX0_addRoom_71 : decode cX0_addRoom 71 = .ok (.iload_n 2, 1) := by decide +kernel
theorem dX0_addRoom_72 : decode cX0_addRoom 72 = .ok (.iconst 0, 1) := by decide +kernel
theorem dX0_addRoom_73 : decode cX0_addRoom 73 = .ok (.iastore, 1) := by decide +kernel
theorem dX0_addRoom_74 : decode cX0_addRoom 74 = .ok (.aload_n 0, 1) := by decide +kernel
theorem dX0_addRoom_75 : decode cX0_addRoom 75 = .ok (.getfield 40, 3) := by decide +kernel
theorem dX0_addRoom_78 : decode cX0_addRoom 78 = .ok (.iload_n 2, 1) := by decide +kernel
theorem dX0_addRoom_79 : decode cX0_addRoom 79 = .ok (.iconst 1, 1) := by decide +kernel
theorem dX0_addRoom_80 : decode cX0_addRoom 80 = .ok (.iastore, 1) := by decide +kernel
theorem dX0_addRoom_81 : decode cX0_addRoom 81 = .ok (.aload_n 0, 1) := by decide +kernel
theorem dX0_addRoom_82 : decode cX0_addRoom 82 = .ok (.getfield 43, 3) := by decide +kernel
theorem dX0_addRoom_85 : decode cX0_addRoom 85 = .ok (.iload_n 2, 1) := by decide +kernel
theorem dX0_addRoom_86 : decode cX0_addRoom 86 = .ok (.iconst 1, 1) := by decide +kernel
theorem dX0_addRoom_87 : decode cX0_addRoom 87 = .ok (.iastore, 1) := by decide +kernel
theorem dX0_addRoom_88 : decode cX0_addRoom 88 = .ok (.aload_n 0, 1) := by decide +kernel
theorem dX0_addRoom_89 : decode cX0_addRoom 89 = .ok (.dup, 1) := by decide +kernel
theorem dX0_addRoom_90 : decode cX0_addRoom 90 = .ok (.getfield 55, 3) := by decide +kernel
theorem dX0_addRoom_93 : decode cX0_addRoom 93 = .ok (.iconst 1, 1) := by decide +kernel
theorem dX0_addRoom_94 : decode cX0_addRoom 94 = .ok (.iadd, 1) := by decide +kernel
theorem dX0_addRoom_95 : decode cX0_addRoom 95 = .ok (.putfield 55, 3) := by decide +kernel
theorem dX0_addRoom_98 : decode cX0_addRoom 98 = .ok (.iload_n 2, 1) := by decide +kernel
theorem dX0_addRoom_99 : decode cX0_addRoom 99 = .ok (.ireturn, 1) := by decide +kernel
theorem dX0_rowOf_0 : decode cX0_rowOf 0 = .ok (.iload_n 1, 1) := by decide +kernel
theorem dX0_rowOf_1 : decode cX0_rowOf 1 = .ok (.tableswitch 96 0 8 #[51, 56, 61, 66, 71, 76, 81, 86, 91], 51) := by decide +kernel
theorem dX0_rowOf_52 : decode cX0_rowOf 52 = .ok (.aload_n 0, 1) := by decide +kernel
theorem dX0_rowOf_53 : decode cX0_rowOf 53 = .ok (.getfield 18, 3) := by decide +kernel
theorem dX0_rowOf_56 : decode cX0_rowOf 56 = .ok (.areturn, 1) := by decide +kernel
theorem dX0_rowOf_57 : decode cX0_rowOf 57 = .ok (.aload_n 0, 1) := by decide +kernel
theorem dX0_rowOf_58 : decode cX0_rowOf 58 = .ok (.getfield 22, 3) := by decide +kernel
theorem dX0_rowOf_61 : decode cX0_rowOf 61 = .ok (.areturn, 1) := by decide +kernel
theorem dX0_rowOf_62 : decode cX0_rowOf 62 = .ok (.aload_n 0, 1) := by decide +kernel
theorem dX0_rowOf_63 : decode cX0_rowOf 63 = .ok (.getfield 25, 3) := by decide +kernel
theorem dX0_rowOf_66 : decode cX0_rowOf 66 = .ok (.areturn, 1) := by decide +kernel
theorem dX0_rowOf_67 : decode cX0_rowOf 67 = .ok (.aload_n 0, 1) := by decide +kernel
theorem dX0_rowOf_68 : decode cX0_rowOf 68 = .ok (.getfield 28, 3) := by decide +kernel
theorem dX0_rowOf_71 : decode cX0_rowOf 71 = .ok (.areturn, 1) := by decide +kernel
theorem dX0_rowOf_72 : decode cX0_rowOf 72 = .ok (.aload_n 0, 1) := by decide +kernel
theorem dX0_rowOf_73 : decode cX0_rowOf 73 = .ok (.getfield 31, 3) := by decide +kernel
theorem dX0_rowOf_76 : decode cX0_rowOf 76 = .ok (.areturn, 1) := by decide +kernel
theorem dX0_rowOf_77 : decode cX0_rowOf 77 = .ok (.aload_n 0, 1) := by decide +kernel
theorem dX0_rowOf_78 : decode cX0_rowOf 78 = .ok (.getfield 34, 3) := by decide +kernel
theorem dX0_rowOf_81 : decode cX0_rowOf 81 = .ok (.areturn, 1) := by decide +kernel
theorem dX0_rowOf_82 : decode cX0_rowOf 82 = .ok (.aload_n 0, 1) := by decide +kernel
theorem dX0_rowOf_83 : decode cX0_rowOf 83 = .ok (.getfield 37, 3) := by decide +kernel
theorem dX0_rowOf_86 : decode cX0_rowOf 86 = .ok (.areturn, 1) := by decide +kernel
theorem dX0_rowOf_87 : decode cX0_rowOf 87 = .ok (.aload_n 0, 1) := by decide +kernel
theorem dX0_rowOf_88 : decode cX0_rowOf 88 = .ok (.getfield 40, 3) := by decide +kernel
theorem dX0_rowOf_91 : decode cX0_rowOf 91 = .ok (.areturn, 1) := by decide +kernel
theorem dX0_rowOf_92 : decode cX0_rowOf 92 = .ok (.aload_n 0, 1) := by decide +kernel
theorem dX0_rowOf_93 : decode cX0_rowOf 93 = .ok (.getfield 43, 3) := by decide +kernel
theorem dX0_rowOf_96 : decode cX0_rowOf 96 = .ok (.areturn, 1) := by decide +kernel
theorem dX0_rowOf_97 : decode cX0_rowOf 97 = .ok (.aconst_null, 1) := by decide +kernel
theorem dX0_rowOf_98 : decode cX0_rowOf 98 = .ok (.areturn, 1) := by decide +kernel
theorem dX0_fits_0 : decode cX0_fits 0 = .ok (.aload_n 0, 1) := by decide +kernel
theorem dX0_fits_1 : decode cX0_fits 1 = .ok (.iload_n 1, 1) := by decide +kernel
theorem dX0_fits_2 : decode cX0_fits 2 = .ok (.invokevirtual 58, 3) := by decide +kernel
theorem dX0_fits_5 : decode cX0_fits 5 = .ok (.ifCond .eq 23, 3) := by decide +kernel
theorem dX0_fits_8 : decode cX0_fits 8 = .ok (.iload_n 2, 1) := by decide +kernel
theorem dX0_fits_9 : decode cX0_fits 9 = .ok (.ifCond .lt 19, 3) := by decide +kernel
theorem dX0_fits_12 : decode cX0_fits 12 = .ok (.iload_n 2, 1) := by decide +kernel
theorem dX0_fits_13 : decode cX0_fits 13 = .ok (.getstatic 62, 3) := by decide +kernel
theorem dX0_fits_16 : decode cX0_fits 16 = .ok (.arraylength, 1) := by decide +kernel
theorem dX0_fits_17 : decode cX0_fits 17 = .ok (.if_icmp .ge 11, 3) := by decide +kernel
theorem dX0_fits_20 : decode cX0_fits 20 = .ok (.iload_n 2, 1) := by decide +kernel
theorem dX0_fits_21 : decode cX0_fits 21 = .ok (.getstatic 65, 3) := by decide +kernel
theorem dX0_fits_24 : decode cX0_fits 24 = .ok (.arraylength, 1) := by decide +kernel
theorem dX0_fits_25 : decode cX0_fits 25 = .ok (.if_icmp .lt 5, 3) := by decide +kernel
theorem dX0_fits_28 : decode cX0_fits 28 = .ok (.iconst 0, 1) := by decide +kernel
theorem dX0_fits_29 : decode cX0_fits 29 = .ok (.ireturn, 1) := by decide +kernel
theorem dX0_fits_30 : decode cX0_fits 30 = .ok (.iload_n 3, 1) := by decide +kernel
theorem dX0_fits_31 : decode cX0_fits 31 = .ok (.getstatic 65, 3) := by decide +kernel
theorem dX0_fits_34 : decode cX0_fits 34 = .ok (.iload_n 2, 1) := by decide +kernel
theorem dX0_fits_35 : decode cX0_fits 35 = .ok (.iaload, 1) := by decide +kernel
theorem dX0_fits_36 : decode cX0_fits 36 = .ok (.if_icmp .lt 26, 3) := by decide +kernel
theorem dX0_fits_39 : decode cX0_fits 39 = .ok (.iload_n 3, 1) := by decide +kernel
theorem dX0_fits_40 : decode cX0_fits 40 = .ok (.getstatic 62, 3) := by decide +kernel
theorem dX0_fits_43 : decode cX0_fits 43 = .ok (.iload_n 2, 1) := by decide +kernel
theorem dX0_fits_44 : decode cX0_fits 44 = .ok (.iaload, 1) := by decide +kernel
theorem dX0_fits_45 : decode cX0_fits 45 = .ok (.if_icmp .gt 17, 3) := by decide +kernel
theorem dX0_fits_48 : decode cX0_fits 48 = .ok (.iload_n 2, 1) := by decide +kernel
theorem dX0_fits_49 : decode cX0_fits 49 = .ok (.iconst 4, 1) := by decide +kernel
theorem dX0_fits_50 : decode cX0_fits 50 = .ok (.if_icmp .ne 8, 3) := by decide +kernel
theorem dX0_fits_53 : decode cX0_fits 53 = .ok (.iload_n 3, 1) := by decide +kernel
theorem dX0_fits_54 : decode cX0_fits 54 = .ok (.iload_n 1, 1) := by decide +kernel
theorem dX0_fits_55 : decode cX0_fits 55 = .ok (.if_icmp .eq 7, 3) := by decide +kernel
theorem dX0_fits_58 : decode cX0_fits 58 = .ok (.iconst 1, 1) := by decide +kernel
theorem dX0_fits_59 : decode cX0_fits 59 = .ok (.goto 4, 3) := by decide +kernel
theorem dX0_fits_62 : decode cX0_fits 62 = .ok (.iconst 0, 1) := by decide +kernel
theorem dX0_fits_63 : decode cX0_fits 63 = .ok (.ireturn, 1) := by decide +kernel
theorem dX0_becomes_0 : decode cX0_becomes 0 = .ok (.aload_n 0, 1) := by decide +kernel
theorem dX0_becomes_1 : decode cX0_becomes 1 = .ok (.aload_n 1, 1) := by decide +kernel
theorem dX0_becomes_2 : decode cX0_becomes 2 = .ok (.getfield 55, 3) := by decide +kernel
theorem dX0_becomes_5 : decode cX0_becomes 5 = .ok (.putfield 55, 3) := by decide +kernel
theorem dX0_becomes_8 : decode cX0_becomes 8 = .ok (.aload_n 0, 1) := by decide +kernel
theorem dX0_becomes_9 : decode cX0_becomes 9 = .ok (.aload_n 1, 1) := by decide +kernel
theorem dX0_becomes_10 : decode cX0_becomes 10 = .ok (.getfield 9, 3) := by decide +kernel
theorem dX0_becomes_13 : decode cX0_becomes 13 = .ok (.putfield 9, 3) := by decide +kernel
theorem dX0_becomes_16 : decode cX0_becomes 16 = .ok (.aload_n 0, 1) := by decide +kernel
theorem dX0_becomes_17 : decode cX0_becomes 17 = .ok (.aload_n 1, 1) := by decide +kernel
theorem dX0_becomes_18 : decode cX0_becomes 18 = .ok (.getfield 68, 3) := by decide +kernel
theorem dX0_becomes_21 : decode cX0_becomes 21 = .ok (.putfield 68, 3) := by decide +kernel
theorem dX0_becomes_24 : decode cX0_becomes 24 = .ok (.aload_n 0, 1) := by decide +kernel
theorem dX0_becomes_25 : decode cX0_becomes 25 = .ok (.aload_n 1, 1) := by decide +kernel
theorem dX0_becomes_26 : decode cX0_becomes 26 = .ok (.getfield 15, 3) := by decide +kernel
theorem dX0_becomes_29 : decode cX0_becomes 29 = .ok (.putfield 15, 3) := by decide +kernel
theorem dX0_becomes_32 : decode cX0_becomes 32 = .ok (.aload_n 1, 1) := by decide +kernel
theorem dX0_becomes_33 : decode cX0_becomes 33 = .ok (.getfield 18, 3) := by decide +kernel
theorem dX0_becomes_36 : decode cX0_becomes 36 = .ok (.iconst 0, 1) := by decide +kernel
theorem dX0_becomes_37 : decode cX0_becomes 37 = .ok (.aload_n 0, 1) := by decide +kernel
theorem dX0_becomes_38 : decode cX0_becomes 38 = .ok (.getfield 18, 3) := by decide +kernel
theorem dX0_becomes_41 : decode cX0_becomes 41 = .ok (.iconst 0, 1) := by decide +kernel
theorem dX0_becomes_42 : decode cX0_becomes 42 = .ok (.bipush 8, 2) := by decide +kernel
theorem dX0_becomes_44 : decode cX0_becomes 44 = .ok (.invokestatic 71, 3) := by decide +kernel
theorem dX0_becomes_47 : decode cX0_becomes 47 = .ok (.aload_n 1, 1) := by decide +kernel
theorem dX0_becomes_48 : decode cX0_becomes 48 = .ok (.getfield 22, 3) := by decide +kernel
theorem dX0_becomes_51 : decode cX0_becomes 51 = .ok (.iconst 0, 1) := by decide +kernel
theorem dX0_becomes_52 : decode cX0_becomes 52 = .ok (.aload_n 0, 1) := by decide +kernel
theorem dX0_becomes_53 : decode cX0_becomes 53 = .ok (.getfield 22, 3) := by decide +kernel
theorem dX0_becomes_56 : decode cX0_becomes 56 = .ok (.iconst 0, 1) := by decide +kernel
theorem dX0_becomes_57 : decode cX0_becomes 57 = .ok (.bipush 8, 2) := by decide +kernel
theorem dX0_becomes_59 : decode cX0_becomes 59 = .ok (.invokestatic 71, 3) := by decide +kernel
theorem dX0_becomes_62 : decode cX0_becomes 62 = .ok (.aload_n 1, 1) := by decide +kernel
theorem dX0_becomes_63 : decode cX0_becomes 63 = .ok (.getfield 25, 3) := by decide +kernel
theorem dX0_becomes_66 : decode cX0_becomes 66 = .ok (.iconst 0, 1) := by decide +kernel
theorem dX0_becomes_67 : decode cX0_becomes 67 = .ok (.aload_n 0, 1) := by decide +kernel
theorem dX0_becomes_68 : decode cX0_becomes 68 = .ok (.getfield 25, 3) := by decide +kernel
theorem dX0_becomes_71 : decode cX0_becomes 71 = .ok (.iconst 0, 1) := by decide +kernel
theorem dX0_becomes_72 : decode cX0_becomes 72 = .ok (.bipush 8, 2) := by decide +kernel
theorem dX0_becomes_74 : decode cX0_becomes 74 = .ok (.invokestatic 71, 3) := by decide +kernel
theorem dX0_becomes_77 : decode cX0_becomes 77 = .ok (.aload_n 1, 1) := by decide +kernel
theorem dX0_becomes_78 : decode cX0_becomes 78 = .ok (.getfield 28, 3) := by decide +kernel
theorem dX0_becomes_81 : decode cX0_becomes 81 = .ok (.iconst 0, 1) := by decide +kernel
theorem dX0_becomes_82 : decode cX0_becomes 82 = .ok (.aload_n 0, 1) := by decide +kernel
theorem dX0_becomes_83 : decode cX0_becomes 83 = .ok (.getfield 28, 3) := by decide +kernel
theorem dX0_becomes_86 : decode cX0_becomes 86 = .ok (.iconst 0, 1) := by decide +kernel
theorem dX0_becomes_87 : decode cX0_becomes 87 = .ok (.bipush 8, 2) := by decide +kernel
theorem dX0_becomes_89 : decode cX0_becomes 89 = .ok (.invokestatic 71, 3) := by decide +kernel
theorem dX0_becomes_92 : decode cX0_becomes 92 = .ok (.aload_n 1, 1) := by decide +kernel
theorem dX0_becomes_93 : decode cX0_becomes 93 = .ok (.getfield 31, 3) := by decide +kernel
theorem dX0_becomes_96 : decode cX0_becomes 96 = .ok (.iconst 0, 1) := by decide +kernel
theorem dX0_becomes_97 : decode cX0_becomes 97 = .ok (.aload_n 0, 1) := by decide +kernel
theorem dX0_becomes_98 : decode cX0_becomes 98 = .ok (.getfield 31, 3) := by decide +kernel
theorem dX0_becomes_101 : decode cX0_becomes 101 = .ok (.iconst 0, 1) := by decide +kernel
theorem dX0_becomes_102 : decode cX0_becomes 102 = .ok (.bipush 8, 2) := by decide +kernel
theorem dX0_becomes_104 : decode cX0_becomes 104 = .ok (.invokestatic 71, 3) := by decide +kernel
theorem dX0_becomes_107 : decode cX0_becomes 107 = .ok (.aload_n 1, 1) := by decide +kernel
theorem dX0_becomes_108 : decode cX0_becomes 108 = .ok (.getfield 34, 3) := by decide +kernel
theorem dX0_becomes_111 : decode cX0_becomes 111 = .ok (.iconst 0, 1) := by decide +kernel
theorem dX0_becomes_112 : decode cX0_becomes 112 = .ok (.aload_n 0, 1) := by decide +kernel
theorem dX0_becomes_113 : decode cX0_becomes 113 = .ok (.getfield 34, 3) := by decide +kernel
theorem dX0_becomes_116 : decode cX0_becomes 116 = .ok (.iconst 0, 1) := by decide +kernel
theorem dX0_becomes_117 : decode cX0_becomes 117 = .ok (.bipush 8, 2) := by decide +kernel
theorem dX0_becomes_119 : decode cX0_becomes 119 = .ok (.invokestatic 71, 3) := by decide +kernel
theorem dX0_becomes_122 : decode cX0_becomes 122 = .ok (.aload_n 1, 1) := by decide +kernel
theorem dX0_becomes_123 : decode cX0_becomes 123 = .ok (.getfield 37, 3) := by decide +kernel
theorem dX0_becomes_126 : decode cX0_becomes 126 = .ok (.iconst 0, 1) := by decide +kernel
theorem dX0_becomes_127 : decode cX0_becomes 127 = .ok (.aload_n 0, 1) := by decide +kernel
theorem dX0_becomes_128 : decode cX0_becomes 128 = .ok (.getfield 37, 3) := by decide +kernel
theorem dX0_becomes_131 : decode cX0_becomes 131 = .ok (.iconst 0, 1) := by decide +kernel
theorem dX0_becomes_132 : decode cX0_becomes 132 = .ok (.bipush 8, 2) := by decide +kernel
theorem dX0_becomes_134 : decode cX0_becomes 134 = .ok (.invokestatic 71, 3) := by decide +kernel
theorem dX0_becomes_137 : decode cX0_becomes 137 = .ok (.aload_n 1, 1) := by decide +kernel
theorem dX0_becomes_138 : decode cX0_becomes 138 = .ok (.getfield 40, 3) := by decide +kernel
theorem dX0_becomes_141 : decode cX0_becomes 141 = .ok (.iconst 0, 1) := by decide +kernel
theorem dX0_becomes_142 : decode cX0_becomes 142 = .ok (.aload_n 0, 1) := by decide +kernel
theorem dX0_becomes_143 : decode cX0_becomes 143 = .ok (.getfield 40, 3) := by decide +kernel
theorem dX0_becomes_146 : decode cX0_becomes 146 = .ok (.iconst 0, 1) := by decide +kernel
theorem dX0_becomes_147 : decode cX0_becomes 147 = .ok (.bipush 8, 2) := by decide +kernel
theorem dX0_becomes_149 : decode cX0_becomes 149 = .ok (.invokestatic 71, 3) := by decide +kernel
theorem dX0_becomes_152 : decode cX0_becomes 152 = .ok (.aload_n 1, 1) := by decide +kernel
theorem dX0_becomes_153 : decode cX0_becomes 153 = .ok (.getfield 43, 3) := by decide +kernel
theorem dX0_becomes_156 : decode cX0_becomes 156 = .ok (.iconst 0, 1) := by decide +kernel
theorem dX0_becomes_157 : decode cX0_becomes 157 = .ok (.aload_n 0, 1) := by decide +kernel
theorem dX0_becomes_158 : decode cX0_becomes 158 = .ok (.getfield 43, 3) := by decide +kernel
theorem dX0_becomes_161 : decode cX0_becomes 161 = .ok (.iconst 0, 1) := by decide +kernel
theorem dX0_becomes_162 : decode cX0_becomes 162 = .ok (.bipush 8, 2) := by decide +kernel
theorem dX0_becomes_164 : decode cX0_becomes 164 = .ok (.invokestatic 71, 3) := by decide +kernel
theorem dX0_becomes_167 : decode cX0_becomes 167 = .ok (.aload_n 1, 1) := by decide +kernel
theorem dX0_becomes_168 : decode cX0_becomes 168 = .ok (.getfield 46, 3) := by decide +kernel
theorem dX0_becomes_171 : decode cX0_becomes 171 = .ok (.iconst 0, 1) := by decide +kernel
theorem dX0_becomes_172 : decode cX0_becomes 172 = .ok (.aload_n 0, 1) := by decide +kernel
theorem dX0_becomes_173 : decode cX0_becomes 173 = .ok (.getfield 46, 3) := by decide +kernel
theorem dX0_becomes_176 : decode cX0_becomes 176 = .ok (.iconst 0, 1) := by decide +kernel
theorem dX0_becomes_177 : decode cX0_becomes 177 = .ok (.bipush 10, 2) := by decide +kernel
theorem dX0_becomes_179 : decode cX0_becomes 179 = .ok (.invokestatic 71, 3) := by decide +kernel
theorem dX0_becomes_182 : decode cX0_becomes 182 = .ok (.return_, 1) := by decide +kernel
theorem dX0_wants_0 : decode cX0_wants 0 = .ok (.aload_n 0, 1) := by decide +kernel
theorem dX0_wants_1 : decode cX0_wants 1 = .ok (.getfield 22, 3) := by decide +kernel
theorem dX0_wants_4 : decode cX0_wants 4 = .ok (.iload_n 1, 1) := by decide +kernel
theorem dX0_wants_5 : decode cX0_wants 5 = .ok (.iaload, 1) := by decide +kernel
theorem dX0_wants_6 : decode cX0_wants 6 = .ok (.bipush 120, 2) := by decide +kernel
theorem dX0_wants_8 : decode cX0_wants 8 = .ok (.if_icmp .lt 7, 3) := by decide +kernel
theorem dX0_wants_11 : decode cX0_wants 11 = .ok (.iconst 2, 1) := by decide +kernel
theorem dX0_wants_12 : decode cX0_wants 12 = .ok (.goto 4, 3) := by decide +kernel
theorem dX0_wants_15 : decode cX0_wants 15 = .ok (.iconst 1, 1) := by decide +kernel
theorem dX0_wants_16 : decode cX0_wants 16 = .ok (.istore_n 2, 1) := by decide +kernel
theorem dX0_wants_17 : decode cX0_wants 17 = .ok (.aload_n 0, 1) := by decide +kernel
theorem dX0_wants_18 : decode cX0_wants 18 = .ok (.getfield 40, 3) := by decide +kernel
theorem dX0_wants_21 : decode cX0_wants 21 = .ok (.iload_n 1, 1) := by decide +kernel
theorem dX0_wants_22 : decode cX0_wants 22 = .ok (.iaload, 1) := by decide +kernel
theorem dX0_wants_23 : decode cX0_wants 23 = .ok (.iconst 3, 1) := by decide +kernel
theorem dX0_wants_24 : decode cX0_wants 24 = .ok (.invokestatic 77, 3) := by decide +kernel
theorem dX0_wants_27 : decode cX0_wants 27 = .ok (.istore_n 3, 1) := by decide +kernel
theorem dX0_wants_28 : decode cX0_wants 28 = .ok (.aload_n 0, 1) := by decide +kernel
theorem dX0_wants_29 : decode cX0_wants 29 = .ok (.getfield 18, 3) := by decide +kernel
theorem dX0_wants_32 : decode cX0_wants 32 = .ok (.iload_n 1, 1) := by decide +kernel
theorem dX0_wants_33 : decode cX0_wants 33 = .ok (.iaload, 1) := by decide +kernel
theorem dX0_wants_34 : decode cX0_wants 34 = .ok (.tableswitch 87 1 6 #[38, 44, 46, 40, 66, 50], 38) := by decide +kernel
theorem dX0_wants_72 : decode cX0_wants 72 = .ok (.iload_n 2, 1) := by decide +kernel
theorem dX0_wants_73 : decode cX0_wants 73 = .ok (.ireturn, 1) := by decide +kernel
theorem dX0_wants_74 : decode cX0_wants 74 = .ok (.iload_n 2, 1) := by decide +kernel
theorem dX0_wants_75 : decode cX0_wants 75 = .ok (.iconst 1, 1) := by decide +kernel
theorem dX0_wants_76 : decode cX0_wants 76 = .ok (.iadd, 1) := by decide +kernel
theorem dX0_wants_77 : decode cX0_wants 77 = .ok (.ireturn, 1) := by decide +kernel
theorem dX0_wants_78 : decode cX0_wants 78 = .ok (.iload_n 3, 1) := by decide +kernel
theorem dX0_wants_79 : decode cX0_wants 79 = .ok (.ireturn, 1) := by decide +kernel
theorem dX0_wants_80 : decode cX0_wants 80 = .ok (.iload_n 3, 1) := by decide +kernel
theorem dX0_wants_81 : decode cX0_wants 81 = .ok (.iconst 2, 1) := by decide +kernel
theorem dX0_wants_82 : decode cX0_wants 82 = .ok (.idiv, 1) := by decide +kernel
theorem dX0_wants_83 : decode cX0_wants 83 = .ok (.ireturn, 1) := by decide +kernel
theorem dX0_wants_84 : decode cX0_wants 84 = .ok (.aload_n 0, 1) := by decide +kernel
theorem dX0_wants_85 : decode cX0_wants 85 = .ok (.getfield 40, 3) := by decide +kernel
theorem dX0_wants_88 : decode cX0_wants 88 = .ok (.iload_n 1, 1) := by decide +kernel
theorem dX0_wants_89 : decode cX0_wants 89 = .ok (.iaload, 1) := by decide +kernel
theorem dX0_wants_90 : decode cX0_wants 90 = .ok (.iconst 2, 1) := by decide +kernel
theorem dX0_wants_91 : decode cX0_wants 91 = .ok (.if_icmp .ge 7, 3) := by decide +kernel
theorem dX0_wants_94 : decode cX0_wants 94 = .ok (.iconst 0, 1) := by decide +kernel
theorem dX0_wants_95 : decode cX0_wants 95 = .ok (.goto 4, 3) := by decide +kernel
theorem dX0_wants_98 : decode cX0_wants 98 = .ok (.iload_n 3, 1) := by decide +kernel
theorem dX0_wants_99 : decode cX0_wants 99 = .ok (.ireturn, 1) := by decide +kernel
theorem dX0_wants_100 : decode cX0_wants 100 = .ok (.aload_n 0, 1) := by decide +kernel
theorem dX0_wants_101 : decode cX0_wants 101 = .ok (.getfield 68, 3) := by decide +kernel
theorem dX0_wants_104 : decode cX0_wants 104 = .ok (.iconst 2, 1) := by decide +kernel
theorem dX0_wants_105 : decode cX0_wants 105 = .ok (.irem, 1) := by decide +kernel
theorem dX0_wants_106 : decode cX0_wants 106 = .ok (.iconst 1, 1) := by decide +kernel
theorem dX0_wants_107 : decode cX0_wants 107 = .ok (.if_icmp .ne 12, 3) := by decide +kernel
theorem dX0_wants_110 : decode cX0_wants 110 = .ok (.aload_n 0, 1) := by decide +kernel
theorem dX0_wants_111 : decode cX0_wants 111 = .ok (.getfield 43, 3) := by decide +kernel
theorem dX0_wants_114 : decode cX0_wants 114 = .ok (.iload_n 1, 1) := by decide +kernel
theorem dX0_wants_115 : decode cX0_wants 115 = .ok (.iaload, 1) := by decide +kernel
theorem dX0_wants_116 : decode cX0_wants 116 = .ok (.goto 4, 3) := by decide +kernel
theorem dX0_wants_119 : decode cX0_wants 119 = .ok (.iconst 1, 1) := by decide +kernel
theorem dX0_wants_120 : decode cX0_wants 120 = .ok (.ireturn, 1) := by decide +kernel
theorem dX0_wants_121 : decode cX0_wants 121 = .ok (.iconst 1, 1) := by decide +kernel
theorem dX0_wants_122 : decode cX0_wants 122 = .ok (.ireturn, 1) := by decide +kernel
theorem dX0_stokes_0 : decode cX0_stokes 0 = .ok (.aload_n 0, 1) := by decide +kernel
theorem dX0_stokes_1 : decode cX0_stokes 1 = .ok (.getfield 34, 3) := by decide +kernel
theorem dX0_stokes_4 : decode cX0_stokes 4 = .ok (.iload_n 1, 1) := by decide +kernel
theorem dX0_stokes_5 : decode cX0_stokes 5 = .ok (.iaload, 1) := by decide +kernel
theorem dX0_stokes_6 : decode cX0_stokes 6 = .ok (.iconst 1, 1) := by decide +kernel
theorem dX0_stokes_7 : decode cX0_stokes 7 = .ok (.if_icmp .ne 7, 3) := by decide +kernel
theorem dX0_stokes_10 : decode cX0_stokes 10 = .ok (.iconst 0, 1) := by decide +kernel
theorem dX0_stokes_11 : decode cX0_stokes 11 = .ok (.goto 17, 3) := by decide +kernel
theorem dX0_stokes_14 : decode cX0_stokes 14 = .ok (.aload_n 0, 1) := by decide +kernel
theorem dX0_stokes_15 : decode cX0_stokes 15 = .ok (.iload_n 1, 1) := by decide +kernel
theorem dX0_stokes_16 : decode cX0_stokes 16 = .ok (.invokevirtual 83, 3) := by decide +kernel
theorem dX0_stokes_19 : decode cX0_stokes 19 = .ok (.aload_n 0, 1) := by decide +kernel
theorem dX0_stokes_20 : decode cX0_stokes 20 = .ok (.getfield 25, 3) := by decide +kernel
theorem dX0_stokes_23 : decode cX0_stokes 23 = .ok (.iload_n 1, 1) := by decide +kernel
theorem dX0_stokes_24 : decode cX0_stokes 24 = .ok (.iaload, 1) := by decide +kernel
theorem dX0_stokes_25 : decode cX0_stokes 25 = .ok (.invokestatic 77, 3) := by decide +kernel
theorem dX0_stokes_28 : decode cX0_stokes 28 = .ok (.ireturn, 1) := by decide +kernel
theorem dX0_passHours_0 : decode cX0_passHours 0 = .ok (.iconst 0, 1) := by decide +kernel
theorem dX0_passHours_1 : decode cX0_passHours 1 = .ok (.istore_n 2, 1) := by decide +kernel
theorem dX0_passHours_2 : decode cX0_passHours 2 = .ok (.iconst 0, 1) := by decide +kernel
theorem dX0_passHours_3 : decode cX0_passHours 3 = .ok (.istore_n 3, 1) := by decide +kernel
theorem dX0_passHours_4 : decode cX0_passHours 4 = .ok (.iload_n 3, 1) := by decide +kernel
theorem dX0_passHours_5 : decode cX0_passHours 5 = .ok (.iload_n 1, 1) := by decide +kernel
theorem dX0_passHours_6 : decode cX0_passHours 6 = .ok (.if_icmp .ge 16, 3) := by decide +kernel
theorem dX0_passHours_9 : decode cX0_passHours 9 = .ok (.iload_n 2, 1) := by decide +kernel
theorem dX0_passHours_10 : decode cX0_passHours 10 = .ok (.aload_n 0, 1) := by decide +kernel
theorem dX0_passHours_11 : decode cX0_passHours 11 = .ok (.invokevirtual 87, 3) := by decide +kernel
theorem dX0_passHours_14 : decode cX0_passHours 14 = .ok (.iadd, 1) := by decide +kernel
theorem dX0_passHours_15 : decode cX0_passHours 15 = .ok (.istore_n 2, 1) := by decide +kernel
theorem dX0_passHours_16 : decode cX0_passHours 16 = .ok (.iinc 3 1, 3) := by decide +kernel
theorem dX0_passHours_19 : decode cX0_passHours 19 = .ok (.goto (-15), 3) := by decide +kernel
theorem dX0_passHours_22 : decode cX0_passHours 22 = .ok (.iload_n 2, 1) := by decide +kernel
theorem dX0_passHours_23 : decode cX0_passHours 23 = .ok (.ireturn, 1) := by decide +kernel
theorem dX0_passHour_0 : decode cX0_passHour 0 = .ok (.iconst 0, 1) := by decide +kernel
theorem dX0_passHour_1 : decode cX0_passHour 1 = .ok (.istore_n 1, 1) := by decide +kernel
theorem dX0_passHour_2 : decode cX0_passHour 2 = .ok (.iconst 0, 1) := by decide +kernel
theorem dX0_passHour_3 : decode cX0_passHour 3 = .ok (.istore_n 2, 1) := by decide +kernel
theorem dX0_passHour_4 : decode cX0_passHour 4 = .ok (.iload_n 2, 1) := by decide +kernel
theorem dX0_passHour_5 : decode cX0_passHour 5 = .ok (.aload_n 0, 1) := by decide +kernel
theorem dX0_passHour_6 : decode cX0_passHour 6 = .ok (.getfield 55, 3) := by decide +kernel
theorem dX0_passHour_9 : decode cX0_passHour 9 = .ok (.if_icmp .ge 44, 3) := by decide +kernel
theorem dX0_passHour_12 : decode cX0_passHour 12 = .ok (.aload_n 0, 1) := by decide +kernel
theorem dX0_passHour_13 : decode cX0_passHour 13 = .ok (.getfield 43, 3) := by decide +kernel
theorem dX0_passHour_16 : decode cX0_passHour 16 = .ok (.iload_n 2, 1) := by decide +kernel
theorem dX0_passHour_17 : decode cX0_passHour 17 = .ok (.aload_n 0, 1) := by decide +kernel
theorem dX0_passHour_18 : decode cX0_passHour 18 = .ok (.iload_n 2, 1) := by decide +kernel
theorem dX0_passHour_19 : decode cX0_passHour 19 = .ok (.invokevirtual 91, 3) := by decide +kernel
theorem dX0_passHour_22 : decode cX0_passHour 22 = .ok (.iastore, 1) := by decide +kernel
theorem dX0_passHour_23 : decode cX0_passHour 23 = .ok (.aload_n 0, 1) := by decide +kernel
theorem dX0_passHour_24 : decode cX0_passHour 24 = .ok (.getfield 25, 3) := by decide +kernel
theorem dX0_passHour_27 : decode cX0_passHour 27 = .ok (.iload_n 2, 1) := by decide +kernel
theorem dX0_passHour_28 : decode cX0_passHour 28 = .ok (.dup2, 1) := by decide +kernel
theorem dX0_passHour_29 : decode cX0_passHour 29 = .ok (.iaload, 1) := by decide +kernel
theorem dX0_passHour_30 : decode cX0_passHour 30 = .ok (.aload_n 0, 1) := by decide +kernel
theorem dX0_passHour_31 : decode cX0_passHour 31 = .ok (.getfield 43, 3) := by decide +kernel
theorem dX0_passHour_34 : decode cX0_passHour 34 = .ok (.iload_n 2, 1) := by decide +kernel
theorem dX0_passHour_35 : decode cX0_passHour 35 = .ok (.iaload, 1) := by decide +kernel
theorem dX0_passHour_36 : decode cX0_passHour 36 = .ok (.isub, 1) := by decide +kernel
theorem dX0_passHour_37 : decode cX0_passHour 37 = .ok (.iastore, 1) := by decide +kernel
theorem dX0_passHour_38 : decode cX0_passHour 38 = .ok (.iload_n 1, 1) := by decide +kernel
theorem dX0_passHour_39 : decode cX0_passHour 39 = .ok (.aload_n 0, 1) := by decide +kernel
theorem dX0_passHour_40 : decode cX0_passHour 40 = .ok (.getfield 43, 3) := by decide +kernel
theorem dX0_passHour_43 : decode cX0_passHour 43 = .ok (.iload_n 2, 1) := by decide +kernel
theorem dX0_passHour_44 : decode cX0_passHour 44 = .ok (.iaload, 1) := by decide +kernel
theorem dX0_passHour_45 : decode cX0_passHour 45 = .ok (.iadd, 1) := by decide +kernel
theorem dX0_passHour_46 : decode cX0_passHour 46 = .ok (.istore_n 1, 1) := by decide +kernel
theorem dX0_passHour_47 : decode cX0_passHour 47 = .ok (.iinc 2 1, 3) := by decide +kernel
theorem dX0_passHour_50 : decode cX0_passHour 50 = .ok (.goto (-46), 3) := by decide +kernel
theorem dX0_passHour_53 : decode cX0_passHour 53 = .ok (.aload_n 0, 1) := by decide +kernel
theorem dX0_passHour_54 : decode cX0_passHour 54 = .ok (.invokevirtual 94, 3) := by decide +kernel
theorem dX0_passHour_57 : decode cX0_passHour 57 = .ok (.iconst 0, 1) := by decide +kernel
theorem dX0_passHour_58 : decode cX0_passHour 58 = .ok (.istore_n 2, 1) := by decide +kernel
theorem dX0_passHour_59 : decode cX0_passHour 59 = .ok (.iload_n 2, 1) := by decide +kernel
theorem dX0_passHour_60 : decode cX0_passHour 60 = .ok (.aload_n 0, 1) := by decide +kernel
theorem dX0_passHour_61 : decode cX0_passHour 61 = .ok (.getfield 55, 3) := by decide +kernel
theorem dX0_passHour_64 : decode cX0_passHour 64 = .ok (.if_icmp .ge 51, 3) := by decide +kernel
theorem dX0_passHour_67 : decode cX0_passHour 67 = .ok (.aload_n 0, 1) := by decide +kernel
theorem dX0_passHour_68 : decode cX0_passHour 68 = .ok (.getfield 22, 3) := by decide +kernel
theorem dX0_passHour_71 : decode cX0_passHour 71 = .ok (.iload_n 2, 1) := by decide +kernel
theorem dX0_passHour_72 : decode cX0_passHour 72 = .ok (.aload_n 0, 1) := by decide +kernel
theorem dX0_passHour_73 : decode cX0_passHour 73 = .ok (.getfield 22, 3) := by decide +kernel
theorem dX0_passHour_76 : decode cX0_passHour 76 = .ok (.iload_n 2, 1) := by decide +kernel
theorem dX0_passHour_77 : decode cX0_passHour 77 = .ok (.iaload, 1) := by decide +kernel
theorem dX0_passHour_78 : decode cX0_passHour 78 = .ok (.bipush 15, 2) := by decide +kernel
theorem dX0_passHour_80 : decode cX0_passHour 80 = .ok (.aload_n 0, 1) := by decide +kernel
theorem dX0_passHour_81 : decode cX0_passHour 81 = .ok (.getfield 40, 3) := by decide +kernel
theorem dX0_passHour_84 : decode cX0_passHour 84 = .ok (.iload_n 2, 1) := by decide +kernel
theorem dX0_passHour_85 : decode cX0_passHour 85 = .ok (.iaload, 1) := by decide +kernel
theorem dX0_passHour_86 : decode cX0_passHour 86 = .ok (.imul, 1) := by decide +kernel
theorem dX0_passHour_87 : decode cX0_passHour 87 = .ok (.iadd, 1) := by decide +kernel
theorem dX0_passHour_88 : decode cX0_passHour 88 = .ok (.sipush 300, 3) := by decide +kernel
theorem dX0_passHour_91 : decode cX0_passHour 91 = .ok (.invokestatic 77, 3) := by decide +kernel
theorem dX0_passHour_94 : decode cX0_passHour 94 = .ok (.iastore, 1) := by decide +kernel
theorem dX0_passHour_95 : decode cX0_passHour 95 = .ok (.aload_n 0, 1) := by decide +kernel
theorem dX0_passHour_96 : decode cX0_passHour 96 = .ok (.getfield 22, 3) := by decide +kernel
theorem dX0_passHour_99 : decode cX0_passHour 99 = .ok (.iload_n 2, 1) := by decide +kernel
theorem dX0_passHour_100 : decode cX0_passHour 100 = .ok (.dup2, 1) := by decide +kernel
theorem dX0_passHour_101 : decode cX0_passHour 101 = .ok (.iaload, 1) := by decide +kernel
theorem dX0_passHour_102 : decode cX0_passHour 102 = .ok (.aload_n 0, 1) := by decide +kernel
theorem dX0_passHour_103 : decode cX0_passHour 103 = .ok (.iload_n 2, 1) := by decide +kernel
theorem dX0_passHour_104 : decode cX0_passHour 104 = .ok (.invokevirtual 97, 3) := by decide +kernel
theorem dX0_passHour_107 : decode cX0_passHour 107 = .ok (.isub, 1) := by decide +kernel
theorem dX0_passHour_108 : decode cX0_passHour 108 = .ok (.iastore, 1) := by decide +kernel
theorem dX0_passHour_109 : decode cX0_passHour 109 = .ok (.iinc 2 1, 3) := by decide +kernel
theorem dX0_passHour_112 : decode cX0_passHour 112 = .ok (.goto (-53), 3) := by decide +kernel
theorem dX0_passHour_115 : decode cX0_passHour 115 = .ok (.aload_n 0, 1) := by decide +kernel
theorem dX0_passHour_116 : decode cX0_passHour 116 = .ok (.dup, 1) := by decide +kernel
theorem dX0_passHour_117 : decode cX0_passHour 117 = .ok (.getfield 68, 3) := by decide +kernel
theorem dX0_passHour_120 : decode cX0_passHour 120 = .ok (.iconst 1, 1) := by decide +kernel
theorem dX0_passHour_121 : decode cX0_passHour 121 = .ok (.iadd, 1) := by decide +kernel
theorem dX0_passHour_122 : decode cX0_passHour 122 = .ok (.putfield 68, 3) := by decide +kernel
theorem dX0_passHour_125 : decode cX0_passHour 125 = .ok (.iload_n 1, 1) := by decide +kernel
theorem dX0_passHour_126 : decode cX0_passHour 126 = .ok (.ireturn, 1) := by decide +kernel
theorem dX0_heat_0 : decode cX0_heat 0 = .ok (.aload_n 0, 1) := by decide +kernel
theorem dX0_heat_1 : decode cX0_heat 1 = .ok (.getfield 40, 3) := by decide +kernel
theorem dX0_heat_4 : decode cX0_heat 4 = .ok (.iconst 0, 1) := by decide +kernel
theorem dX0_heat_5 : decode cX0_heat 5 = .ok (.invokestatic 49, 3) := by decide +kernel
theorem dX0_heat_8 : decode cX0_heat 8 = .ok (.iconst 0, 1) := by decide +kernel
theorem dX0_heat_9 : decode cX0_heat 9 = .ok (.istore_n 1, 1) := by decide +kernel
theorem dX0_heat_10 : decode cX0_heat 10 = .ok (.iload_n 1, 1) := by decide +kernel
theorem dX0_heat_11 : decode cX0_heat 11 = .ok (.aload_n 0, 1) := by decide +kernel
theorem dX0_heat_12 : decode cX0_heat 12 = .ok (.getfield 55, 3) := by decide +kernel
theorem dX0_heat_15 : decode cX0_heat 15 = .ok (.if_icmp .ge 53, 3) := by decide +kernel
theorem dX0_heat_18 : decode cX0_heat 18 = .ok (.aload_n 0, 1) := by decide +kernel
theorem dX0_heat_19 : decode cX0_heat 19 = .ok (.aload_n 0, 1) := by decide +kernel
theorem dX0_heat_20 : decode cX0_heat 20 = .ok (.getfield 31, 3) := by decide +kernel
theorem dX0_heat_23 : decode cX0_heat 23 = .ok (.iload_n 1, 1) := by decide +kernel
theorem dX0_heat_24 : decode cX0_heat 24 = .ok (.iaload, 1) := by decide +kernel
theorem dX0_heat_25 : decode cX0_heat 25 = .ok (.invokevirtual 58, 3) := by decide +kernel
theorem dX0_heat_28 : decode cX0_heat 28 = .ok (.ifCond .eq 34, 3) := by decide +kernel
theorem dX0_heat_31 : decode cX0_heat 31 = .ok (.aload_n 0, 1) := by decide +kernel
theorem dX0_heat_32 : decode cX0_heat 32 = .ok (.getfield 40, 3) := by decide +kernel
theorem dX0_heat_35 : decode cX0_heat 35 = .ok (.aload_n 0, 1) := by decide +kernel
theorem dX0_heat_36 : decode cX0_heat 36 = .ok (.getfield 31, 3) := by decide +kernel
theorem dX0_heat_39 : decode cX0_heat 39 = .ok (.iload_n 1, 1) := by decide +kernel
theorem dX0_heat_40 : decode cX0_heat 40 = .ok (.iaload, 1) := by decide +kernel
theorem dX0_heat_41 : decode cX0_heat 41 = .ok (.dup2, 1) := by decide +kernel
theorem dX0_heat_42 : decode cX0_heat 42 = .ok (.iaload, 1) := by decide +kernel
theorem dX0_heat_43 : decode cX0_heat 43 = .ok (.aload_n 0, 1) := by decide +kernel
theorem dX0_heat_44 : decode cX0_heat 44 = .ok (.getfield 43, 3) := by decide +kernel
theorem dX0_heat_47 : decode cX0_heat 47 = .ok (.iload_n 1, 1) := by decide +kernel
theorem dX0_heat_48 : decode cX0_heat 48 = .ok (.iaload, 1) := by decide +kernel
theorem dX0_heat_49 : decode cX0_heat 49 = .ok (.aload_n 0, 1) := by decide +kernel
theorem dX0_heat_50 : decode cX0_heat 50 = .ok (.getfield 37, 3) := by decide +kernel
theorem dX0_heat_53 : decode cX0_heat 53 = .ok (.iload_n 1, 1) := by decide +kernel
theorem dX0_heat_54 : decode cX0_heat 54 = .ok (.iaload, 1) := by decide +kernel
theorem dX0_heat_55 : decode cX0_heat 55 = .ok (.isub, 1) := by decide +kernel
theorem dX0_heat_56 : decode cX0_heat 56 = .ok (.iconst 0, 1) := by decide +kernel
theorem dX0_heat_57 : decode cX0_heat 57 = .ok (.invokestatic 100, 3) := by decide +kernel
theorem dX0_heat_60 : decode cX0_heat 60 = .ok (.iadd, 1) := by decide +kernel
theorem dX0_heat_61 : decode cX0_heat 61 = .ok (.iastore, 1) := by decide +kernel
theorem dX0_heat_62 : decode cX0_heat 62 = .ok (.iinc 1 1, 3) := by decide +kernel
theorem dX0_heat_65 : decode cX0_heat 65 = .ok (.goto (-55), 3) := by decide +kernel
theorem dX0_heat_68 : decode cX0_heat 68 = .ok (.return_, 1) := by decide +kernel
theorem dX0_lostBy_0 : decode cX0_lostBy 0 = .ok (.aload_n 0, 1) := by decide +kernel
theorem dX0_lostBy_1 : decode cX0_lostBy 1 = .ok (.getfield 9, 3) := by decide +kernel
theorem dX0_lostBy_4 : decode cX0_lostBy 4 = .ok (.aload_n 0, 1) := by decide +kernel
theorem dX0_lostBy_5 : decode cX0_lostBy 5 = .ok (.getfield 22, 3) := by decide +kernel
theorem dX0_lostBy_8 : decode cX0_lostBy 8 = .ok (.iload_n 1, 1) := by decide +kernel
theorem dX0_lostBy_9 : decode cX0_lostBy 9 = .ok (.iaload, 1) := by decide +kernel
theorem dX0_lostBy_10 : decode cX0_lostBy 10 = .ok (.if_icmp .ge 12, 3) := by decide +kernel
theorem dX0_lostBy_13 : decode cX0_lostBy 13 = .ok (.aload_n 0, 1) := by decide +kernel
theorem dX0_lostBy_14 : decode cX0_lostBy 14 = .ok (.getfield 28, 3) := by decide +kernel
theorem dX0_lostBy_17 : decode cX0_lostBy 17 = .ok (.iload_n 1, 1) := by decide +kernel
theorem dX0_lostBy_18 : decode cX0_lostBy 18 = .ok (.iaload, 1) := by decide +kernel
theorem dX0_lostBy_19 : decode cX0_lostBy 19 = .ok (.ifCond .gt 5, 3) := by decide +kernel
theorem dX0_lostBy_22 : decode cX0_lostBy 22 = .ok (.iconst 0, 1) := by decide +kernel
theorem dX0_lostBy_23 : decode cX0_lostBy 23 = .ok (.ireturn, 1) := by decide +kernel
theorem dX0_lostBy_24 : decode cX0_lostBy 24 = .ok (.aload_n 0, 1) := by decide +kernel
theorem dX0_lostBy_25 : decode cX0_lostBy 25 = .ok (.getfield 22, 3) := by decide +kernel
theorem dX0_lostBy_28 : decode cX0_lostBy 28 = .ok (.iload_n 1, 1) := by decide +kernel
theorem dX0_lostBy_29 : decode cX0_lostBy 29 = .ok (.iaload, 1) := by decide +kernel
theorem dX0_lostBy_30 : decode cX0_lostBy 30 = .ok (.aload_n 0, 1) := by decide +kernel
theorem dX0_lostBy_31 : decode cX0_lostBy 31 = .ok (.getfield 9, 3) := by decide +kernel
theorem dX0_lostBy_34 : decode cX0_lostBy 34 = .ok (.isub, 1) := by decide +kernel
theorem dX0_lostBy_35 : decode cX0_lostBy 35 = .ok (.aload_n 0, 1) := by decide +kernel
theorem dX0_lostBy_36 : decode cX0_lostBy 36 = .ok (.getfield 28, 3) := by decide +kernel
theorem dX0_lostBy_39 : decode cX0_lostBy 39 = .ok (.iload_n 1, 1) := by decide +kernel
theorem dX0_lostBy_40 : decode cX0_lostBy 40 = .ok (.iaload, 1) := by decide +kernel
theorem dX0_lostBy_41 : decode cX0_lostBy 41 = .ok (.idiv, 1) := by decide +kernel
theorem dX0_lostBy_42 : decode cX0_lostBy 42 = .ok (.ireturn, 1) := by decide +kernel
theorem dX0_nextIsRest_0 : decode cX0_nextIsRest 0 = .ok (.iconst 0, 1) := by decide +kernel
theorem dX0_nextIsRest_1 : decode cX0_nextIsRest 1 = .ok (.istore_n 1, 1) := by decide +kernel
theorem dX0_nextIsRest_2 : decode cX0_nextIsRest 2 = .ok (.iload_n 1, 1) := by decide +kernel
theorem dX0_nextIsRest_3 : decode cX0_nextIsRest 3 = .ok (.aload_n 0, 1) := by decide +kernel
theorem dX0_nextIsRest_4 : decode cX0_nextIsRest 4 = .ok (.getfield 55, 3) := by decide +kernel
theorem dX0_nextIsRest_7 : decode cX0_nextIsRest 7 = .ok (.if_icmp .ge 25, 3) := by decide +kernel
theorem dX0_nextIsRest_10 : decode cX0_nextIsRest 10 = .ok (.aload_n 0, 1) := by decide +kernel
theorem dX0_nextIsRest_11 : decode cX0_nextIsRest 11 = .ok (.iload_n 1, 1) := by decide +kernel
theorem dX0_nextIsRest_12 : decode cX0_nextIsRest 12 = .ok (.invokevirtual 91, 3) := by decide +kernel
theorem dX0_nextIsRest_15 : decode cX0_nextIsRest 15 = .ok (.aload_n 0, 1) := by decide +kernel
theorem dX0_nextIsRest_16 : decode cX0_nextIsRest 16 = .ok (.getfield 43, 3) := by decide +kernel
theorem dX0_nextIsRest_19 : decode cX0_nextIsRest 19 = .ok (.iload_n 1, 1) := by decide +kernel
theorem dX0_nextIsRest_20 : decode cX0_nextIsRest 20 = .ok (.iaload, 1) := by decide +kernel
theorem dX0_nextIsRest_21 : decode cX0_nextIsRest 21 = .ok (.if_icmp .eq 5, 3) := by decide +kernel
theorem dX0_nextIsRest_24 : decode cX0_nextIsRest 24 = .ok (.iconst 0, 1) := by decide +kernel
theorem dX0_nextIsRest_25 : decode cX0_nextIsRest 25 = .ok (.ireturn, 1) := by decide +kernel
theorem dX0_nextIsRest_26 : decode cX0_nextIsRest 26 = .ok (.iinc 1 1, 3) := by decide +kernel
theorem dX0_nextIsRest_29 : decode cX0_nextIsRest 29 = .ok (.goto (-27), 3) := by decide +kernel
theorem dX0_nextIsRest_32 : decode cX0_nextIsRest 32 = .ok (.iconst 1, 1) := by decide +kernel
theorem dX0_nextIsRest_33 : decode cX0_nextIsRest 33 = .ok (.ireturn, 1) := by decide +kernel
theorem dX0_stokesLike_0 : decode cX0_stokesLike 0 = .ok (.aload_n 0, 1) := by decide +kernel
theorem dX0_stokesLike_1 : decode cX0_stokesLike 1 = .ok (.getfield 68, 3) := by decide +kernel
theorem dX0_stokesLike_4 : decode cX0_stokesLike 4 = .ok (.aload_n 1, 1) := by decide +kernel
theorem dX0_stokesLike_5 : decode cX0_stokesLike 5 = .ok (.getfield 68, 3) := by decide +kernel
theorem dX0_stokesLike_8 : decode cX0_stokesLike 8 = .ok (.isub, 1) := by decide +kernel
theorem dX0_stokesLike_9 : decode cX0_stokesLike 9 = .ok (.iconst 2, 1) := by decide +kernel
theorem dX0_stokesLike_10 : decode cX0_stokesLike 10 = .ok (.irem, 1) := by decide +kernel
theorem dX0_stokesLike_11 : decode cX0_stokesLike 11 = .ok (.ifCond .eq 5, 3) := by decide +kernel
theorem dX0_stokesLike_14 : decode cX0_stokesLike 14 = .ok (.iconst 0, 1) := by decide +kernel
theorem dX0_stokesLike_15 : decode cX0_stokesLike 15 = .ok (.ireturn, 1) := by decide +kernel
theorem dX0_stokesLike_16 : decode cX0_stokesLike 16 = .ok (.iconst 0, 1) := by decide +kernel
theorem dX0_stokesLike_17 : decode cX0_stokesLike 17 = .ok (.istore_n 2, 1) := by decide +kernel
theorem dX0_stokesLike_18 : decode cX0_stokesLike 18 = .ok (.iload_n 2, 1) := by decide +kernel
theorem dX0_stokesLike_19 : decode cX0_stokesLike 19 = .ok (.aload_n 0, 1) := by decide +kernel
theorem dX0_stokesLike_20 : decode cX0_stokesLike 20 = .ok (.getfield 55, 3) := by decide +kernel
theorem dX0_stokesLike_23 : decode cX0_stokesLike 23 = .ok (.if_icmp .ge 41, 3) := by decide +kernel
theorem dX0_stokesLike_26 : decode cX0_stokesLike 26 = .ok (.aload_n 0, 1) := by decide +kernel
theorem dX0_stokesLike_27 : decode cX0_stokesLike 27 = .ok (.getfield 40, 3) := by decide +kernel
theorem dX0_stokesLike_30 : decode cX0_stokesLike 30 = .ok (.iload_n 2, 1) := by decide +kernel
theorem dX0_stokesLike_31 : decode cX0_stokesLike 31 = .ok (.iaload, 1) := by decide +kernel
theorem dX0_stokesLike_32 : decode cX0_stokesLike 32 = .ok (.aload_n 1, 1) := by decide +kernel
theorem dX0_stokesLike_33 : decode cX0_stokesLike 33 = .ok (.getfield 40, 3) := by decide +kernel
theorem dX0_stokesLike_36 : decode cX0_stokesLike 36 = .ok (.iload_n 2, 1) := by decide +kernel
theorem dX0_stokesLike_37 : decode cX0_stokesLike 37 = .ok (.iaload, 1) := by decide +kernel
theorem dX0_stokesLike_38 : decode cX0_stokesLike 38 = .ok (.if_icmp .ne 18, 3) := by decide +kernel
theorem dX0_stokesLike_41 : decode cX0_stokesLike 41 = .ok (.aload_n 0, 1) := by decide +kernel
theorem dX0_stokesLike_42 : decode cX0_stokesLike 42 = .ok (.getfield 43, 3) := by decide +kernel
theorem dX0_stokesLike_45 : decode cX0_stokesLike 45 = .ok (.iload_n 2, 1) := by decide +kernel
theorem dX0_stokesLike_46 : decode cX0_stokesLike 46 = .ok (.iaload, 1) := by decide +kernel
theorem dX0_stokesLike_47 : decode cX0_stokesLike 47 = .ok (.aload_n 1, 1) := by decide +kernel
theorem dX0_stokesLike_48 : decode cX0_stokesLike 48 = .ok (.getfield 43, 3) := by decide +kernel
theorem dX0_stokesLike_51 : decode cX0_stokesLike 51 = .ok (.iload_n 2, 1) := by decide +kernel
theorem dX0_stokesLike_52 : decode cX0_stokesLike 52 = .ok (.iaload, 1) := by decide +kernel
theorem dX0_stokesLike_53 : decode cX0_stokesLike 53 = .ok (.if_icmp .eq 5, 3) := by decide +kernel
theorem dX0_stokesLike_56 : decode cX0_stokesLike 56 = .ok (.iconst 0, 1) := by decide +kernel
theorem dX0_stokesLike_57 : decode cX0_stokesLike 57 = .ok (.ireturn, 1) := by decide +kernel
theorem dX0_stokesLike_58 : decode cX0_stokesLike 58 = .ok (.iinc 2 1, 3) := by decide +kernel
theorem dX0_stokesLike_61 : decode cX0_stokesLike 61 = .ok (.goto (-43), 3) := by decide +kernel
theorem dX0_stokesLike_64 : decode cX0_stokesLike 64 = .ok (.iconst 1, 1) := by decide +kernel
theorem dX0_stokesLike_65 : decode cX0_stokesLike 65 = .ok (.ireturn, 1) := by decide +kernel
theorem dX0_changePlaces_0 : decode cX0_changePlaces 0 = .ok (.aload_n 0, 1) := by decide +kernel
theorem dX0_changePlaces_1 : decode cX0_changePlaces 1 = .ok (.getfield 18, 3) := by decide +kernel
theorem dX0_changePlaces_4 : decode cX0_changePlaces 4 = .ok (.iload_n 1, 1) := by decide +kernel
theorem dX0_changePlaces_5 : decode cX0_changePlaces 5 = .ok (.iload_n 2, 1) := by decide +kernel
theorem dX0_changePlaces_6 : decode cX0_changePlaces 6 = .ok (.invokestatic 103, 3) := by decide +kernel
theorem dX0_changePlaces_9 : decode cX0_changePlaces 9 = .ok (.aload_n 0, 1) := by decide +kernel
theorem dX0_changePlaces_10 : decode cX0_changePlaces 10 = .ok (.getfield 34, 3) := by decide +kernel
theorem dX0_changePlaces_13 : decode cX0_changePlaces 13 = .ok (.iload_n 1, 1) := by decide +kernel
theorem dX0_changePlaces_14 : decode cX0_changePlaces 14 = .ok (.iload_n 2, 1) := by decide +kernel
theorem dX0_changePlaces_15 : decode cX0_changePlaces 15 = .ok (.invokestatic 103, 3) := by decide +kernel
theorem dX0_changePlaces_18 : decode cX0_changePlaces 18 = .ok (.aload_n 0, 1) := by decide +kernel
theorem dX0_changePlaces_19 : decode cX0_changePlaces 19 = .ok (.getfield 43, 3) := by decide +kernel
theorem dX0_changePlaces_22 : decode cX0_changePlaces 22 = .ok (.iload_n 1, 1) := by decide +kernel
theorem dX0_changePlaces_23 : decode cX0_changePlaces 23 = .ok (.iload_n 2, 1) := by decide +kernel
theorem dX0_changePlaces_24 : decode cX0_changePlaces 24 = .ok (.invokestatic 103, 3) := by decide +kernel
theorem dX0_changePlaces_27 : decode cX0_changePlaces 27 = .ok (.return_, 1) := by decide +kernel
theorem dX0_swap_0 : decode cX0_swap 0 = .ok (.aload_n 0, 1) := by decide +kernel
theorem dX0_swap_1 : decode cX0_swap 1 = .ok (.iload_n 1, 1) := by decide +kernel
theorem dX0_swap_2 : decode cX0_swap 2 = .ok (.iaload, 1) := by decide +kernel
theorem dX0_swap_3 : decode cX0_swap 3 = .ok (.istore_n 3, 1) := by decide +kernel
theorem dX0_swap_4 : decode cX0_swap 4 = .ok (.aload_n 0, 1) := by decide +kernel
theorem dX0_swap_5 : decode cX0_swap 5 = .ok (.iload_n 1, 1) := by decide +kernel
theorem dX0_swap_6 : decode cX0_swap 6 = .ok (.aload_n 0, 1) := by decide +kernel
theorem dX0_swap_7 : decode cX0_swap 7 = .ok (.iload_n 2, 1) := by decide +kernel
theorem dX0_swap_8 : decode cX0_swap 8 = .ok (.iaload, 1) := by decide +kernel
theorem dX0_swap_9 : decode cX0_swap 9 = .ok (.iastore, 1) := by decide +kernel
theorem dX0_swap_10 : decode cX0_swap 10 = .ok (.aload_n 0, 1) := by decide +kernel
theorem dX0_swap_11 : decode cX0_swap 11 = .ok (.iload_n 2, 1) := by decide +kernel
theorem dX0_swap_12 : decode cX0_swap 12 = .ok (.iload_n 3, 1) := by decide +kernel
theorem dX0_swap_13 : decode cX0_swap 13 = .ok (.iastore, 1) := by decide +kernel
theorem dX0_swap_14 : decode cX0_swap 14 = .ok (.return_, 1) := by decide +kernel
theorem dX0_isOneOf_0 : decode cX0_isOneOf 0 = .ok (.aload_n 0, 1) := by decide +kernel
theorem dX0_isOneOf_1 : decode cX0_isOneOf 1 = .ok (.getfield 18, 3) := by decide +kernel
theorem dX0_isOneOf_4 : decode cX0_isOneOf 4 = .ok (.iload_n 1, 1) := by decide +kernel
theorem dX0_isOneOf_5 : decode cX0_isOneOf 5 = .ok (.iaload, 1) := by decide +kernel
theorem dX0_isOneOf_6 : decode cX0_isOneOf 6 = .ok (.istore_n 3, 1) := by decide +kernel
theorem dX0_isOneOf_7 : decode cX0_isOneOf 7 = .ok (.iconst 0, 1) := by decide +kernel
theorem dX0_isOneOf_8 : decode cX0_isOneOf 8 = .ok (.istore 4, 2) := by decide +kernel
theorem dX0_isOneOf_10 : decode cX0_isOneOf 10 = .ok (.iload 4, 2) := by decide +kernel
theorem dX0_isOneOf_12 : decode cX0_isOneOf 12 = .ok (.getstatic 107, 3) := by decide +kernel
theorem dX0_isOneOf_15 : decode cX0_isOneOf 15 = .ok (.arraylength, 1) := by decide +kernel
theorem dX0_isOneOf_16 : decode cX0_isOneOf 16 = .ok (.if_icmp .ge 29, 3) := by decide +kernel
theorem dX0_isOneOf_19 : decode cX0_isOneOf 19 = .ok (.iload_n 3, 1) := by decide +kernel
theorem dX0_isOneOf_20 : decode cX0_isOneOf 20 = .ok (.invokestatic 110, 3) := by decide +kernel
theorem dX0_isOneOf_23 : decode cX0_isOneOf 23 = .ok (.ifCond .eq 22, 3) := by decide +kernel
theorem dX0_isOneOf_26 : decode cX0_isOneOf 26 = .ok (.iload_n 3, 1) := by decide +kernel
theorem dX0_isOneOf_27 : decode cX0_isOneOf 27 = .ok (.iload_n 2, 1) := by decide +kernel
theorem dX0_isOneOf_28 : decode cX0_isOneOf 28 = .ok (.if_icmp .ne 5, 3) := by decide +kernel
theorem dX0_isOneOf_31 : decode cX0_isOneOf 31 = .ok (.iconst 1, 1) := by decide +kernel
theorem dX0_isOneOf_32 : decode cX0_isOneOf 32 = .ok (.ireturn, 1) := by decide +kernel
theorem dX0_isOneOf_33 : decode cX0_isOneOf 33 = .ok (.getstatic 107, 3) := by decide +kernel
theorem dX0_isOneOf_36 : decode cX0_isOneOf 36 = .ok (.iload_n 3, 1) := by decide +kernel
theorem dX0_isOneOf_37 : decode cX0_isOneOf 37 = .ok (.iaload, 1) := by decide +kernel
theorem dX0_isOneOf_38 : decode cX0_isOneOf 38 = .ok (.istore_n 3, 1) := by decide +kernel
theorem dX0_isOneOf_39 : decode cX0_isOneOf 39 = .ok (.iinc 4 1, 3) := by decide +kernel
theorem dX0_isOneOf_42 : decode cX0_isOneOf 42 = .ok (.goto (-32), 3) := by decide +kernel
theorem dX0_isOneOf_45 : decode cX0_isOneOf 45 = .ok (.iconst 0, 1) := by decide +kernel
theorem dX0_isOneOf_46 : decode cX0_isOneOf 46 = .ok (.ireturn, 1) := by decide +kernel
theorem dX0_heatersOf_0 : decode cX0_heatersOf 0 = .ok (.iconst 0, 1) := by decide +kernel
theorem dX0_heatersOf_1 : decode cX0_heatersOf 1 = .ok (.istore_n 2, 1) := by decide +kernel
theorem dX0_heatersOf_2 : decode cX0_heatersOf 2 = .ok (.iconst 0, 1) := by decide +kernel
theorem dX0_heatersOf_3 : decode cX0_heatersOf 3 = .ok (.istore_n 3, 1) := by decide +kernel
theorem dX0_heatersOf_4 : decode cX0_heatersOf 4 = .ok (.iload_n 3, 1) := by decide +kernel
theorem dX0_heatersOf_5 : decode cX0_heatersOf 5 = .ok (.aload_n 0, 1) := by decide +kernel
theorem dX0_heatersOf_6 : decode cX0_heatersOf 6 = .ok (.getfield 55, 3) := by decide +kernel
theorem dX0_heatersOf_9 : decode cX0_heatersOf 9 = .ok (.if_icmp .ge 25, 3) := by decide +kernel
theorem dX0_heatersOf_12 : decode cX0_heatersOf 12 = .ok (.aload_n 0, 1) := by decide +kernel
theorem dX0_heatersOf_13 : decode cX0_heatersOf 13 = .ok (.getfield 31, 3) := by decide +kernel
theorem dX0_heatersOf_16 : decode cX0_heatersOf 16 = .ok (.iload_n 3, 1) := by decide +kernel
theorem dX0_heatersOf_17 : decode cX0_heatersOf 17 = .ok (.iaload, 1) := by decide +kernel
theorem dX0_heatersOf_18 : decode cX0_heatersOf 18 = .ok (.iload_n 1, 1) := by decide +kernel
theorem dX0_heatersOf_19 : decode cX0_heatersOf 19 = .ok (.if_icmp .ne 9, 3) := by decide +kernel
theorem dX0_heatersOf_22 : decode cX0_heatersOf 22 = .ok (.iload_n 2, 1) := by decide +kernel
theorem dX0_heatersOf_23 : decode cX0_heatersOf 23 = .ok (.iconst 1, 1) := by decide +kernel
theorem dX0_heatersOf_24 : decode cX0_heatersOf 24 = .ok (.iload_n 3, 1) := by decide +kernel
theorem dX0_heatersOf_25 : decode cX0_heatersOf 25 = .ok (.ishl, 1) := by decide +kernel
theorem dX0_heatersOf_26 : decode cX0_heatersOf 26 = .ok (.ior, 1) := by decide +kernel
theorem dX0_heatersOf_27 : decode cX0_heatersOf 27 = .ok (.istore_n 2, 1) := by decide +kernel
theorem dX0_heatersOf_28 : decode cX0_heatersOf 28 = .ok (.iinc 3 1, 3) := by decide +kernel
theorem dX0_heatersOf_31 : decode cX0_heatersOf 31 = .ok (.goto (-27), 3) := by decide +kernel
theorem dX0_heatersOf_34 : decode cX0_heatersOf 34 = .ok (.iload_n 2, 1) := by decide +kernel
theorem dX0_heatersOf_35 : decode cX0_heatersOf 35 = .ok (.ireturn, 1) := by decide +kernel
theorem dX0_reachedFrom_0 : decode cX0_reachedFrom 0 = .ok (.iconst 0, 1) := by decide +kernel
theorem dX0_reachedFrom_1 : decode cX0_reachedFrom 1 = .ok (.istore_n 2, 1) := by decide +kernel
theorem dX0_reachedFrom_2 : decode cX0_reachedFrom 2 = .ok (.aload_n 0, 1) := by decide +kernel
theorem dX0_reachedFrom_3 : decode cX0_reachedFrom 3 = .ok (.getfield 31, 3) := by decide +kernel
theorem dX0_reachedFrom_6 : decode cX0_reachedFrom 6 = .ok (.iload_n 1, 1) := by decide +kernel
theorem dX0_reachedFrom_7 : decode cX0_reachedFrom 7 = .ok (.iaload, 1) := by decide +kernel
theorem dX0_reachedFrom_8 : decode cX0_reachedFrom 8 = .ok (.istore_n 3, 1) := by decide +kernel
theorem dX0_reachedFrom_9 : decode cX0_reachedFrom 9 = .ok (.iconst 0, 1) := by decide +kernel
theorem dX0_reachedFrom_10 : decode cX0_reachedFrom 10 = .ok (.istore 4, 2) := by decide +kernel
theorem dX0_reachedFrom_12 : decode cX0_reachedFrom 12 = .ok (.iload 4, 2) := by decide +kernel
theorem dX0_reachedFrom_14 : decode cX0_reachedFrom 14 = .ok (.aload_n 0, 1) := by decide +kernel
theorem dX0_reachedFrom_15 : decode cX0_reachedFrom 15 = .ok (.getfield 55, 3) := by decide +kernel
theorem dX0_reachedFrom_18 : decode cX0_reachedFrom 18 = .ok (.if_icmp .ge 30, 3) := by decide +kernel
theorem dX0_reachedFrom_21 : decode cX0_reachedFrom 21 = .ok (.aload_n 0, 1) := by decide +kernel
theorem dX0_reachedFrom_22 : decode cX0_reachedFrom 22 = .ok (.iload_n 3, 1) := by decide +kernel
theorem dX0_reachedFrom_23 : decode cX0_reachedFrom 23 = .ok (.invokevirtual 58, 3) := by decide +kernel
theorem dX0_reachedFrom_26 : decode cX0_reachedFrom 26 = .ok (.ifCond .eq 22, 3) := by decide +kernel
theorem dX0_reachedFrom_29 : decode cX0_reachedFrom 29 = .ok (.iload_n 2, 1) := by decide +kernel
theorem dX0_reachedFrom_30 : decode cX0_reachedFrom 30 = .ok (.iconst 1, 1) := by decide +kernel
theorem dX0_reachedFrom_31 : decode cX0_reachedFrom 31 = .ok (.iload_n 3, 1) := by decide +kernel
theorem dX0_reachedFrom_32 : decode cX0_reachedFrom 32 = .ok (.ishl, 1) := by decide +kernel
theorem dX0_reachedFrom_33 : decode cX0_reachedFrom 33 = .ok (.ior, 1) := by decide +kernel
theorem dX0_reachedFrom_34 : decode cX0_reachedFrom 34 = .ok (.istore_n 2, 1) := by decide +kernel
theorem dX0_reachedFrom_35 : decode cX0_reachedFrom 35 = .ok (.aload_n 0, 1) := by decide +kernel
theorem dX0_reachedFrom_36 : decode cX0_reachedFrom 36 = .ok (.getfield 31, 3) := by decide +kernel
theorem dX0_reachedFrom_39 : decode cX0_reachedFrom 39 = .ok (.iload_n 3, 1) := by decide +kernel
theorem dX0_reachedFrom_40 : decode cX0_reachedFrom 40 = .ok (.iaload, 1) := by decide +kernel
theorem dX0_reachedFrom_41 : decode cX0_reachedFrom 41 = .ok (.istore_n 3, 1) := by decide +kernel
theorem dX0_reachedFrom_42 : decode cX0_reachedFrom 42 = .ok (.iinc 4 1, 3) := by decide +kernel
theorem dX0_reachedFrom_45 : decode cX0_reachedFrom 45 = .ok (.goto (-33), 3) := by decide +kernel
theorem dX0_reachedFrom_48 : decode cX0_reachedFrom 48 = .ok (.iload_n 2, 1) := by decide +kernel
theorem dX0_reachedFrom_49 : decode cX0_reachedFrom 49 = .ok (.ireturn, 1) := by decide +kernel
theorem dX0_coldRooms_0 : decode cX0_coldRooms 0 = .ok (.iconst 0, 1) := by decide +kernel
theorem dX0_coldRooms_1 : decode cX0_coldRooms 1 = .ok (.istore_n 1, 1) := by decide +kernel
theorem dX0_coldRooms_2 : decode cX0_coldRooms 2 = .ok (.iconst 0, 1) := by decide +kernel
theorem dX0_coldRooms_3 : decode cX0_coldRooms 3 = .ok (.istore_n 2, 1) := by decide +kernel
theorem dX0_coldRooms_4 : decode cX0_coldRooms 4 = .ok (.iload_n 2, 1) := by decide +kernel
theorem dX0_coldRooms_5 : decode cX0_coldRooms 5 = .ok (.aload_n 0, 1) := by decide +kernel
theorem dX0_coldRooms_6 : decode cX0_coldRooms 6 = .ok (.getfield 55, 3) := by decide +kernel
theorem dX0_coldRooms_9 : decode cX0_coldRooms 9 = .ok (.if_icmp .ge 26, 3) := by decide +kernel
theorem dX0_coldRooms_12 : decode cX0_coldRooms 12 = .ok (.aload_n 0, 1) := by decide +kernel
theorem dX0_coldRooms_13 : decode cX0_coldRooms 13 = .ok (.getfield 22, 3) := by decide +kernel
theorem dX0_coldRooms_16 : decode cX0_coldRooms 16 = .ok (.iload_n 2, 1) := by decide +kernel
theorem dX0_coldRooms_17 : decode cX0_coldRooms 17 = .ok (.iaload, 1) := by decide +kernel
theorem dX0_coldRooms_18 : decode cX0_coldRooms 18 = .ok (.bipush 60, 2) := by decide +kernel
theorem dX0_coldRooms_20 : decode cX0_coldRooms 20 = .ok (.if_icmp .ge 9, 3) := by decide +kernel
theorem dX0_coldRooms_23 : decode cX0_coldRooms 23 = .ok (.iload_n 1, 1) := by decide +kernel
theorem dX0_coldRooms_24 : decode cX0_coldRooms 24 = .ok (.iconst 1, 1) := by decide +kernel
theorem dX0_coldRooms_25 : decode cX0_coldRooms 25 = .ok (.iload_n 2, 1) := by decide +kernel
theorem dX0_coldRooms_26 : decode cX0_coldRooms 26 = .ok (.ishl, 1) := by decide +kernel
theorem dX0_coldRooms_27 : decode cX0_coldRooms 27 = .ok (.ior, 1) := by decide +kernel
theorem dX0_coldRooms_28 : decode cX0_coldRooms 28 = .ok (.istore_n 1, 1) := by decide +kernel
theorem dX0_coldRooms_29 : decode cX0_coldRooms 29 = .ok (.iinc 2 1, 3) := by decide +kernel
theorem dX0_coldRooms_32 : decode cX0_coldRooms 32 = .ok (.goto (-28), 3) := by decide +kernel
theorem dX0_coldRooms_35 : decode cX0_coldRooms 35 = .ok (.iload_n 1, 1) := by decide +kernel
theorem dX0_coldRooms_36 : decode cX0_coldRooms 36 = .ok (.ireturn, 1) := by decide +kernel
theorem dX0_awayRooms_0 : decode cX0_awayRooms 0 = .ok (.iconst 0, 1) := by decide +kernel
theorem dX0_awayRooms_1 : decode cX0_awayRooms 1 = .ok (.istore_n 1, 1) := by decide +kernel
theorem dX0_awayRooms_2 : decode cX0_awayRooms 2 = .ok (.iconst 0, 1) := by decide +kernel
theorem dX0_awayRooms_3 : decode cX0_awayRooms 3 = .ok (.istore_n 2, 1) := by decide +kernel
theorem dX0_awayRooms_4 : decode cX0_awayRooms 4 = .ok (.iload_n 2, 1) := by decide +kernel
theorem dX0_awayRooms_5 : decode cX0_awayRooms 5 = .ok (.aload_n 0, 1) := by decide +kernel
theorem dX0_awayRooms_6 : decode cX0_awayRooms 6 = .ok (.getfield 55, 3) := by decide +kernel
theorem dX0_awayRooms_9 : decode cX0_awayRooms 9 = .ok (.if_icmp .ge 25, 3) := by decide +kernel
theorem dX0_awayRooms_12 : decode cX0_awayRooms 12 = .ok (.aload_n 0, 1) := by decide +kernel
theorem dX0_awayRooms_13 : decode cX0_awayRooms 13 = .ok (.getfield 34, 3) := by decide +kernel
theorem dX0_awayRooms_16 : decode cX0_awayRooms 16 = .ok (.iload_n 2, 1) := by decide +kernel
theorem dX0_awayRooms_17 : decode cX0_awayRooms 17 = .ok (.iaload, 1) := by decide +kernel
theorem dX0_awayRooms_18 : decode cX0_awayRooms 18 = .ok (.iconst 1, 1) := by decide +kernel
theorem dX0_awayRooms_19 : decode cX0_awayRooms 19 = .ok (.if_icmp .ne 9, 3) := by decide +kernel
theorem dX0_awayRooms_22 : decode cX0_awayRooms 22 = .ok (.iload_n 1, 1) := by decide +kernel
theorem dX0_awayRooms_23 : decode cX0_awayRooms 23 = .ok (.iconst 1, 1) := by decide +kernel
theorem dX0_awayRooms_24 : decode cX0_awayRooms 24 = .ok (.iload_n 2, 1) := by decide +kernel
theorem dX0_awayRooms_25 : decode cX0_awayRooms 25 = .ok (.ishl, 1) := by decide +kernel
theorem dX0_awayRooms_26 : decode cX0_awayRooms 26 = .ok (.ior, 1) := by decide +kernel
theorem dX0_awayRooms_27 : decode cX0_awayRooms 27 = .ok (.istore_n 1, 1) := by decide +kernel
theorem dX0_awayRooms_28 : decode cX0_awayRooms 28 = .ok (.iinc 2 1, 3) := by decide +kernel
theorem dX0_awayRooms_31 : decode cX0_awayRooms 31 = .ok (.goto (-27), 3) := by decide +kernel
theorem dX0_awayRooms_34 : decode cX0_awayRooms 34 = .ok (.iload_n 1, 1) := by decide +kernel
theorem dX0_awayRooms_35 : decode cX0_awayRooms 35 = .ok (.ireturn, 1) := by decide +kernel
theorem dX0_warmerThan_0 : decode cX0_warmerThan 0 = .ok (.iconst 0, 1) := by decide +kernel
theorem dX0_warmerThan_1 : decode cX0_warmerThan 1 = .ok (.istore_n 2, 1) := by decide +kernel
theorem dX0_warmerThan_2 : decode cX0_warmerThan 2 = .ok (.iconst 0, 1) := by decide +kernel
theorem dX0_warmerThan_3 : decode cX0_warmerThan 3 = .ok (.istore_n 3, 1) := by decide +kernel
theorem dX0_warmerThan_4 : decode cX0_warmerThan 4 = .ok (.iload_n 3, 1) := by decide +kernel
theorem dX0_warmerThan_5 : decode cX0_warmerThan 5 = .ok (.aload_n 0, 1) := by decide +kernel
theorem dX0_warmerThan_6 : decode cX0_warmerThan 6 = .ok (.getfield 55, 3) := by decide +kernel
theorem dX0_warmerThan_9 : decode cX0_warmerThan 9 = .ok (.if_icmp .ge 30, 3) := by decide +kernel
theorem dX0_warmerThan_12 : decode cX0_warmerThan 12 = .ok (.aload_n 0, 1) := by decide +kernel
theorem dX0_warmerThan_13 : decode cX0_warmerThan 13 = .ok (.getfield 22, 3) := by decide +kernel
theorem dX0_warmerThan_16 : decode cX0_warmerThan 16 = .ok (.iload_n 3, 1) := by decide +kernel
theorem dX0_warmerThan_17 : decode cX0_warmerThan 17 = .ok (.iaload, 1) := by decide +kernel
theorem dX0_warmerThan_18 : decode cX0_warmerThan 18 = .ok (.aload_n 1, 1) := by decide +kernel
theorem dX0_warmerThan_19 : decode cX0_warmerThan 19 = .ok (.getfield 22, 3) := by decide +kernel
theorem dX0_warmerThan_22 : decode cX0_warmerThan 22 = .ok (.iload_n 3, 1) := by decide +kernel
theorem dX0_warmerThan_23 : decode cX0_warmerThan 23 = .ok (.iaload, 1) := by decide +kernel
theorem dX0_warmerThan_24 : decode cX0_warmerThan 24 = .ok (.if_icmp .le 9, 3) := by decide +kernel
theorem dX0_warmerThan_27 : decode cX0_warmerThan 27 = .ok (.iload_n 2, 1) := by decide +kernel
theorem dX0_warmerThan_28 : decode cX0_warmerThan 28 = .ok (.iconst 1, 1) := by decide +kernel
theorem dX0_warmerThan_29 : decode cX0_warmerThan 29 = .ok (.iload_n 3, 1) := by decide +kernel
theorem dX0_warmerThan_30 : decode cX0_warmerThan 30 = .ok (.ishl, 1) := by decide +kernel
theorem dX0_warmerThan_31 : decode cX0_warmerThan 31 = .ok (.ior, 1) := by decide +kernel
theorem dX0_warmerThan_32 : decode cX0_warmerThan 32 = .ok (.istore_n 2, 1) := by decide +kernel
theorem dX0_warmerThan_33 : decode cX0_warmerThan 33 = .ok (.iinc 3 1, 3) := by decide +kernel
theorem dX0_warmerThan_36 : decode cX0_warmerThan 36 = .ok (.goto (-32), 3) := by decide +kernel
theorem dX0_warmerThan_39 : decode cX0_warmerThan 39 = .ok (.iload_n 2, 1) := by decide +kernel
theorem dX0_warmerThan_40 : decode cX0_warmerThan 40 = .ok (.ireturn, 1) := by decide +kernel
theorem dX0_sumOf_0 : decode cX0_sumOf 0 = .ok (.iconst 0, 1) := by decide +kernel
theorem dX0_sumOf_1 : decode cX0_sumOf 1 = .ok (.istore_n 2, 1) := by decide +kernel
theorem dX0_sumOf_2 : decode cX0_sumOf 2 = .ok (.iconst 0, 1) := by decide +kernel
theorem dX0_sumOf_3 : decode cX0_sumOf 3 = .ok (.istore_n 3, 1) := by decide +kernel
theorem dX0_sumOf_4 : decode cX0_sumOf 4 = .ok (.iload_n 3, 1) := by decide +kernel
theorem dX0_sumOf_5 : decode cX0_sumOf 5 = .ok (.aload_n 0, 1) := by decide +kernel
theorem dX0_sumOf_6 : decode cX0_sumOf 6 = .ok (.getfield 55, 3) := by decide +kernel
theorem dX0_sumOf_9 : decode cX0_sumOf 9 = .ok (.if_icmp .ge 15, 3) := by decide +kernel
theorem dX0_sumOf_12 : decode cX0_sumOf 12 = .ok (.iload_n 2, 1) := by decide +kernel
theorem dX0_sumOf_13 : decode cX0_sumOf 13 = .ok (.aload_n 1, 1) := by decide +kernel
theorem dX0_sumOf_14 : decode cX0_sumOf 14 = .ok (.iload_n 3, 1) := by decide +kernel
theorem dX0_sumOf_15 : decode cX0_sumOf 15 = .ok (.iaload, 1) := by decide +kernel
theorem dX0_sumOf_16 : decode cX0_sumOf 16 = .ok (.iadd, 1) := by decide +kernel
theorem dX0_sumOf_17 : decode cX0_sumOf 17 = .ok (.istore_n 2, 1) := by decide +kernel
theorem dX0_sumOf_18 : decode cX0_sumOf 18 = .ok (.iinc 3 1, 3) := by decide +kernel
theorem dX0_sumOf_21 : decode cX0_sumOf 21 = .ok (.goto (-17), 3) := by decide +kernel
theorem dX0_sumOf_24 : decode cX0_sumOf 24 = .ok (.iload_n 2, 1) := by decide +kernel
theorem dX0_sumOf_25 : decode cX0_sumOf 25 = .ok (.ireturn, 1) := by decide +kernel
theorem dX0_leastWarmth_0 : decode cX0_leastWarmth 0 = .ok (.aload_n 0, 1) := by decide +kernel
theorem dX0_leastWarmth_1 : decode cX0_leastWarmth 1 = .ok (.invokevirtual 113, 3) := by decide +kernel
theorem dX0_leastWarmth_4 : decode cX0_leastWarmth 4 = .ok (.istore_n 1, 1) := by decide +kernel
theorem dX0_leastWarmth_5 : decode cX0_leastWarmth 5 = .ok (.iload_n 1, 1) := by decide +kernel
theorem dX0_leastWarmth_6 : decode cX0_leastWarmth 6 = .ok (.ifCond .ge 9, 3) := by decide +kernel
theorem dX0_leastWarmth_9 : decode cX0_leastWarmth 9 = .ok (.sipush 300, 3) := by decide +kernel
theorem dX0_leastWarmth_12 : decode cX0_leastWarmth 12 = .ok (.goto 9, 3) := by decide +kernel
theorem dX0_leastWarmth_15 : decode cX0_leastWarmth 15 = .ok (.aload_n 0, 1) := by decide +kernel
theorem dX0_leastWarmth_16 : decode cX0_leastWarmth 16 = .ok (.getfield 22, 3) := by decide +kernel
theorem dX0_leastWarmth_19 : decode cX0_leastWarmth 19 = .ok (.iload_n 1, 1) := by decide +kernel
theorem dX0_leastWarmth_20 : decode cX0_leastWarmth 20 = .ok (.iaload, 1) := by decide +kernel
theorem dX0_leastWarmth_21 : decode cX0_leastWarmth 21 = .ok (.ireturn, 1) := by decide +kernel
theorem dX0_coldestRoom_0 : decode cX0_coldestRoom 0 = .ok (.iconst (-1), 1) := by decide +kernel
theorem dX0_coldestRoom_1 : decode cX0_coldestRoom 1 = .ok (.istore_n 1, 1) := by decide +kernel
theorem dX0_coldestRoom_2 : decode cX0_coldestRoom 2 = .ok (.iconst 0, 1) := by decide +kernel
theorem dX0_coldestRoom_3 : decode cX0_coldestRoom 3 = .ok (.istore_n 2, 1) := by decide +kernel
theorem dX0_coldestRoom_4 : decode cX0_coldestRoom 4 = .ok (.iload_n 2, 1) := by decide +kernel
theorem dX0_coldestRoom_5 : decode cX0_coldestRoom 5 = .ok (.aload_n 0, 1) := by decide +kernel
theorem dX0_coldestRoom_6 : decode cX0_coldestRoom 6 = .ok (.getfield 55, 3) := by decide +kernel
theorem dX0_coldestRoom_9 : decode cX0_coldestRoom 9 = .ok (.if_icmp .ge 30, 3) := by decide +kernel
theorem dX0_coldestRoom_12 : decode cX0_coldestRoom 12 = .ok (.iload_n 1, 1) := by decide +kernel
theorem dX0_coldestRoom_13 : decode cX0_coldestRoom 13 = .ok (.ifCond .lt 18, 3) := by decide +kernel
theorem dX0_coldestRoom_16 : decode cX0_coldestRoom 16 = .ok (.aload_n 0, 1) := by decide +kernel
theorem dX0_coldestRoom_17 : decode cX0_coldestRoom 17 = .ok (.getfield 22, 3) := by decide +kernel
theorem dX0_coldestRoom_20 : decode cX0_coldestRoom 20 = .ok (.iload_n 2, 1) := by decide +kernel
theorem dX0_coldestRoom_21 : decode cX0_coldestRoom 21 = .ok (.iaload, 1) := by decide +kernel
theorem dX0_coldestRoom_22 : decode cX0_coldestRoom 22 = .ok (.aload_n 0, 1) := by decide +kernel
theorem dX0_coldestRoom_23 : decode cX0_coldestRoom 23 = .ok (.getfield 22, 3) := by decide +kernel
theorem dX0_coldestRoom_26 : decode cX0_coldestRoom 26 = .ok (.iload_n 1, 1) := by decide +kernel
theorem dX0_coldestRoom_27 : decode cX0_coldestRoom 27 = .ok (.iaload, 1) := by decide +kernel
theorem dX0_coldestRoom_28 : decode cX0_coldestRoom 28 = .ok (.if_icmp .ge 5, 3) := by decide +kernel
theorem dX0_coldestRoom_31 : decode cX0_coldestRoom 31 = .ok (.iload_n 2, 1) := by decide +kernel
theorem dX0_coldestRoom_32 : decode cX0_coldestRoom 32 = .ok (.istore_n 1, 1) := by decide +kernel
theorem dX0_coldestRoom_33 : decode cX0_coldestRoom 33 = .ok (.iinc 2 1, 3) := by decide +kernel
theorem dX0_coldestRoom_36 : decode cX0_coldestRoom 36 = .ok (.goto (-32), 3) := by decide +kernel
theorem dX0_coldestRoom_39 : decode cX0_coldestRoom 39 = .ok (.iload_n 1, 1) := by decide +kernel
theorem dX0_coldestRoom_40 : decode cX0_coldestRoom 40 = .ok (.ireturn, 1) := by decide +kernel
theorem dX0_spotsInUse_0 : decode cX0_spotsInUse 0 = .ok (.iconst 0, 1) := by decide +kernel
theorem dX0_spotsInUse_1 : decode cX0_spotsInUse 1 = .ok (.istore_n 1, 1) := by decide +kernel
theorem dX0_spotsInUse_2 : decode cX0_spotsInUse 2 = .ok (.iconst 0, 1) := by decide +kernel
theorem dX0_spotsInUse_3 : decode cX0_spotsInUse 3 = .ok (.istore_n 2, 1) := by decide +kernel
theorem dX0_spotsInUse_4 : decode cX0_spotsInUse 4 = .ok (.iload_n 2, 1) := by decide +kernel
theorem dX0_spotsInUse_5 : decode cX0_spotsInUse 5 = .ok (.bipush 10, 2) := by decide +kernel
theorem dX0_spotsInUse_7 : decode cX0_spotsInUse 7 = .ok (.if_icmp .ge 21, 3) := by decide +kernel
theorem dX0_spotsInUse_10 : decode cX0_spotsInUse 10 = .ok (.aload_n 0, 1) := by decide +kernel
theorem dX0_spotsInUse_11 : decode cX0_spotsInUse 11 = .ok (.getfield 46, 3) := by decide +kernel
theorem dX0_spotsInUse_14 : decode cX0_spotsInUse 14 = .ok (.iload_n 2, 1) := by decide +kernel
theorem dX0_spotsInUse_15 : decode cX0_spotsInUse 15 = .ok (.iaload, 1) := by decide +kernel
theorem dX0_spotsInUse_16 : decode cX0_spotsInUse 16 = .ok (.ifCond .lt 6, 3) := by decide +kernel
theorem dX0_spotsInUse_19 : decode cX0_spotsInUse 19 = .ok (.iinc 1 1, 3) := by decide +kernel
theorem dX0_spotsInUse_22 : decode cX0_spotsInUse 22 = .ok (.iinc 2 1, 3) := by decide +kernel
theorem dX0_spotsInUse_25 : decode cX0_spotsInUse 25 = .ok (.goto (-21), 3) := by decide +kernel
theorem dX0_spotsInUse_28 : decode cX0_spotsInUse 28 = .ok (.iload_n 1, 1) := by decide +kernel
theorem dX0_spotsInUse_29 : decode cX0_spotsInUse 29 = .ok (.ireturn, 1) := by decide +kernel
theorem dX0_draw_0 : decode cX0_draw 0 = .ok (.aload_n 0, 1) := by decide +kernel
theorem dX0_draw_1 : decode cX0_draw 1 = .ok (.aload_n 0, 1) := by decide +kernel
theorem dX0_draw_2 : decode cX0_draw 2 = .ok (.getfield 15, 3) := by decide +kernel
theorem dX0_draw_5 : decode cX0_draw 5 = .ok (.ldc 116, 2) := by decide +kernel
theorem dX0_draw_7 : decode cX0_draw 7 = .ok (.imul, 1) := by decide +kernel
theorem dX0_draw_8 : decode cX0_draw 8 = .ok (.sipush 12345, 3) := by decide +kernel
theorem dX0_draw_11 : decode cX0_draw 11 = .ok (.iadd, 1) := by decide +kernel
theorem dX0_draw_12 : decode cX0_draw 12 = .ok (.putfield 15, 3) := by decide +kernel
theorem dX0_draw_15 : decode cX0_draw 15 = .ok (.aload_n 0, 1) := by decide +kernel
theorem dX0_draw_16 : decode cX0_draw 16 = .ok (.getfield 15, 3) := by decide +kernel
theorem dX0_draw_19 : decode cX0_draw 19 = .ok (.bipush 8, 2) := by decide +kernel
theorem dX0_draw_21 : decode cX0_draw 21 = .ok (.iushr, 1) := by decide +kernel
theorem dX0_draw_22 : decode cX0_draw 22 = .ok (.ireturn, 1) := by decide +kernel
theorem dX0_gotAsIfColdBy_0 : decode cX0_gotAsIfColdBy 0 = .ok (.iconst 0, 1) := by decide +kernel
theorem dX0_gotAsIfColdBy_1 : decode cX0_gotAsIfColdBy 1 = .ok (.istore_n 2, 1) := by decide +kernel
theorem dX0_gotAsIfColdBy_2 : decode cX0_gotAsIfColdBy 2 = .ok (.iload_n 2, 1) := by decide +kernel
theorem dX0_gotAsIfColdBy_3 : decode cX0_gotAsIfColdBy 3 = .ok (.aload_n 0, 1) := by decide +kernel
theorem dX0_gotAsIfColdBy_4 : decode cX0_gotAsIfColdBy 4 = .ok (.getfield 55, 3) := by decide +kernel
theorem dX0_gotAsIfColdBy_7 : decode cX0_gotAsIfColdBy 7 = .ok (.if_icmp .ge 26, 3) := by decide +kernel
theorem dX0_gotAsIfColdBy_10 : decode cX0_gotAsIfColdBy 10 = .ok (.aload_n 0, 1) := by decide +kernel
theorem dX0_gotAsIfColdBy_11 : decode cX0_gotAsIfColdBy 11 = .ok (.getfield 40, 3) := by decide +kernel
theorem dX0_gotAsIfColdBy_14 : decode cX0_gotAsIfColdBy 14 = .ok (.iload_n 2, 1) := by decide +kernel
theorem dX0_gotAsIfColdBy_15 : decode cX0_gotAsIfColdBy 15 = .ok (.iaload, 1) := by decide +kernel
theorem dX0_gotAsIfColdBy_16 : decode cX0_gotAsIfColdBy 16 = .ok (.aload_n 0, 1) := by decide +kernel
theorem dX0_gotAsIfColdBy_17 : decode cX0_gotAsIfColdBy 17 = .ok (.iload_n 1, 1) := by decide +kernel
theorem dX0_gotAsIfColdBy_18 : decode cX0_gotAsIfColdBy 18 = .ok (.iload_n 2, 1) := by decide +kernel
theorem dX0_gotAsIfColdBy_19 : decode cX0_gotAsIfColdBy 19 = .ok (.invokevirtual 117, 3) := by decide +kernel
theorem dX0_gotAsIfColdBy_22 : decode cX0_gotAsIfColdBy 22 = .ok (.if_icmp .eq 5, 3) := by decide +kernel
theorem dX0_gotAsIfColdBy_25 : decode cX0_gotAsIfColdBy 25 = .ok (.iconst 0, 1) := by decide +kernel
theorem dX0_gotAsIfColdBy_26 : decode cX0_gotAsIfColdBy 26 = .ok (.ireturn, 1) := by decide +kernel
theorem dX0_gotAsIfColdBy_27 : decode cX0_gotAsIfColdBy 27 = .ok (.iinc 2 1, 3) := by decide +kernel
theorem dX0_gotAsIfColdBy_30 : decode cX0_gotAsIfColdBy 30 = .ok (.goto (-28), 3) := by decide +kernel
theorem dX0_gotAsIfColdBy_33 : decode cX0_gotAsIfColdBy 33 = .ok (.iconst 1, 1) := by decide +kernel
theorem dX0_gotAsIfColdBy_34 : decode cX0_gotAsIfColdBy 34 = .ok (.ireturn, 1) := by decide +kernel
theorem dX0_gotIfColdBy_0 : decode cX0_gotIfColdBy 0 = .ok (.iconst 0, 1) := by decide +kernel
theorem dX0_gotIfColdBy_1 : decode cX0_gotIfColdBy 1 = .ok (.istore_n 3, 1) := by decide +kernel
theorem dX0_gotIfColdBy_2 : decode cX0_gotIfColdBy 2 = .ok (.iconst 0, 1) := by decide +kernel
theorem dX0_gotIfColdBy_3 : decode cX0_gotIfColdBy 3 = .ok (.istore 4, 2) := by decide +kernel
theorem dX0_gotIfColdBy_5 : decode cX0_gotIfColdBy 5 = .ok (.iload 4, 2) := by decide +kernel
theorem dX0_gotIfColdBy_7 : decode cX0_gotIfColdBy 7 = .ok (.aload_n 0, 1) := by decide +kernel
theorem dX0_gotIfColdBy_8 : decode cX0_gotIfColdBy 8 = .ok (.getfield 55, 3) := by decide +kernel
theorem dX0_gotIfColdBy_11 : decode cX0_gotIfColdBy 11 = .ok (.if_icmp .ge 45, 3) := by decide +kernel
theorem dX0_gotIfColdBy_14 : decode cX0_gotIfColdBy 14 = .ok (.aload_n 0, 1) := by decide +kernel
theorem dX0_gotIfColdBy_15 : decode cX0_gotIfColdBy 15 = .ok (.getfield 31, 3) := by decide +kernel
theorem dX0_gotIfColdBy_18 : decode cX0_gotIfColdBy 18 = .ok (.iload 4, 2) := by decide +kernel
theorem dX0_gotIfColdBy_20 : decode cX0_gotIfColdBy 20 = .ok (.iaload, 1) := by decide +kernel
theorem dX0_gotIfColdBy_21 : decode cX0_gotIfColdBy 21 = .ok (.iload_n 2, 1) := by decide +kernel
theorem dX0_gotIfColdBy_22 : decode cX0_gotIfColdBy 22 = .ok (.if_icmp .ne 28, 3) := by decide +kernel
theorem dX0_gotIfColdBy_25 : decode cX0_gotIfColdBy 25 = .ok (.iload_n 1, 1) := by decide +kernel
theorem dX0_gotIfColdBy_26 : decode cX0_gotIfColdBy 26 = .ok (.iload 4, 2) := by decide +kernel
theorem dX0_gotIfColdBy_28 : decode cX0_gotIfColdBy 28 = .ok (.ishr, 1) := by decide +kernel
theorem dX0_gotIfColdBy_29 : decode cX0_gotIfColdBy 29 = .ok (.iconst 1, 1) := by decide +kernel
theorem dX0_gotIfColdBy_30 : decode cX0_gotIfColdBy 30 = .ok (.iand, 1) := by decide +kernel
theorem dX0_gotIfColdBy_31 : decode cX0_gotIfColdBy 31 = .ok (.ifCond .ne 19, 3) := by decide +kernel
theorem dX0_gotIfColdBy_34 : decode cX0_gotIfColdBy 34 = .ok (.iload_n 3, 1) := by decide +kernel
theorem dX0_gotIfColdBy_35 : decode cX0_gotIfColdBy 35 = .ok (.iconst 1, 1) := by decide +kernel
theorem dX0_gotIfColdBy_36 : decode cX0_gotIfColdBy 36 = .ok (.aload_n 0, 1) := by decide +kernel
theorem dX0_gotIfColdBy_37 : decode cX0_gotIfColdBy 37 = .ok (.getfield 37, 3) := by decide +kernel
theorem dX0_gotIfColdBy_40 : decode cX0_gotIfColdBy 40 = .ok (.iload 4, 2) := by decide +kernel
theorem dX0_gotIfColdBy_42 : decode cX0_gotIfColdBy 42 = .ok (.iaload, 1) := by decide +kernel
theorem dX0_gotIfColdBy_43 : decode cX0_gotIfColdBy 43 = .ok (.isub, 1) := by decide +kernel
theorem dX0_gotIfColdBy_44 : decode cX0_gotIfColdBy 44 = .ok (.iconst 0, 1) := by decide +kernel
theorem dX0_gotIfColdBy_45 : decode cX0_gotIfColdBy 45 = .ok (.invokestatic 100, 3) := by decide +kernel
theorem dX0_gotIfColdBy_48 : decode cX0_gotIfColdBy 48 = .ok (.iadd, 1) := by decide +kernel
theorem dX0_gotIfColdBy_49 : decode cX0_gotIfColdBy 49 = .ok (.istore_n 3, 1) := by decide +kernel
theorem dX0_gotIfColdBy_50 : decode cX0_gotIfColdBy 50 = .ok (.iinc 4 1, 3) := by decide +kernel
theorem dX0_gotIfColdBy_53 : decode cX0_gotIfColdBy 53 = .ok (.goto (-48), 3) := by decide +kernel
theorem dX0_gotIfColdBy_56 : decode cX0_gotIfColdBy 56 = .ok (.iload_n 3, 1) := by decide +kernel
theorem dX0_gotIfColdBy_57 : decode cX0_gotIfColdBy 57 = .ok (.ireturn, 1) := by decide +kernel
theorem dX1_init_0 : decode cX1_init 0 = .ok (.aload_n 0, 1) := by decide +kernel
theorem dX1_init_1 : decode cX1_init 1 = .ok (.invokespecial 3, 3) := by decide +kernel
theorem dX1_init_4 : decode cX1_init 4 = .ok (.aload_n 0, 1) := by decide +kernel
theorem dX1_init_5 : decode cX1_init 5 = .ok (.bipush 40, 2) := by decide +kernel
theorem dX1_init_7 : decode cX1_init 7 = .ok (.newarray .int, 2) := by decide +kernel
theorem dX1_init_9 : decode cX1_init 9 = .ok (.putfield 9, 3) := by decide +kernel
theorem dX1_init_12 : decode cX1_init 12 = .ok (.return_, 1) := by decide +kernel
theorem dX1_renew_0 : decode cX1_renew 0 = .ok (.aload_n 0, 1) := by decide +kernel
theorem dX1_renew_1 : decode cX1_renew 1 = .ok (.iload_n 1, 1) := by decide +kernel
theorem dX1_renew_2 : decode cX1_renew 2 = .ok (.putfield 15, 3) := by decide +kernel
theorem dX1_renew_5 : decode cX1_renew 5 = .ok (.aload_n 0, 1) := by decide +kernel
theorem dX1_renew_6 : decode cX1_renew 6 = .ok (.iload_n 1, 1) := by decide +kernel
theorem dX1_renew_7 : decode cX1_renew 7 = .ok (.ifCond .ne 7, 3) := by decide +kernel
theorem dX1_renew_10 : decode cX1_renew 10 = .ok (.iconst 0, 1) := by decide +kernel
theorem dX1_renew_11 : decode cX1_renew 11 = .ok (.goto 4, 3) := by decide +kernel
theorem dX1_renew_14 : decode cX1_renew 14 = .ok (.iload_n 2, 1) := by decide +kernel
theorem dX1_renew_15 : decode cX1_renew 15 = .ok (.putfield 19, 3) := by decide +kernel
theorem dX1_renew_18 : decode cX1_renew 18 = .ok (.aload_n 0, 1) := by decide +kernel
theorem dX1_renew_19 : decode cX1_renew 19 = .ok (.getfield 9, 3) := by decide +kernel
theorem dX1_renew_22 : decode cX1_renew 22 = .ok (.iconst 0, 1) := by decide +kernel
theorem dX1_renew_23 : decode cX1_renew 23 = .ok (.invokestatic 22, 3) := by decide +kernel
theorem dX1_renew_26 : decode cX1_renew 26 = .ok (.return_, 1) := by decide +kernel
theorem dX1_has_0 : decode cX1_has 0 = .ok (.iload_n 1, 1) := by decide +kernel
theorem dX1_has_1 : decode cX1_has 1 = .ok (.ifCond .lt 21, 3) := by decide +kernel
theorem dX1_has_4 : decode cX1_has 4 = .ok (.iload_n 2, 1) := by decide +kernel
theorem dX1_has_5 : decode cX1_has 5 = .ok (.ifCond .lt 17, 3) := by decide +kernel
theorem dX1_has_8 : decode cX1_has 8 = .ok (.iload_n 1, 1) := by decide +kernel
theorem dX1_has_9 : decode cX1_has 9 = .ok (.aload_n 0, 1) := by decide +kernel
theorem dX1_has_10 : decode cX1_has 10 = .ok (.getfield 19, 3) := by decide +kernel
theorem dX1_has_13 : decode cX1_has 13 = .ok (.iload_n 2, 1) := by decide +kernel
theorem dX1_has_14 : decode cX1_has 14 = .ok (.isub, 1) := by decide +kernel
theorem dX1_has_15 : decode cX1_has 15 = .ok (.if_icmp .gt 7, 3) := by decide +kernel
theorem dX1_has_18 : decode cX1_has 18 = .ok (.iconst 1, 1) := by decide +kernel
theorem dX1_has_19 : decode cX1_has 19 = .ok (.goto 4, 3) := by decide +kernel
theorem dX1_has_22 : decode cX1_has 22 = .ok (.iconst 0, 1) := by decide +kernel
theorem dX1_has_23 : decode cX1_has 23 = .ok (.ireturn, 1) := by decide +kernel
theorem dX1_put_0 : decode cX1_put 0 = .ok (.aload_n 0, 1) := by decide +kernel
theorem dX1_put_1 : decode cX1_put 1 = .ok (.getfield 9, 3) := by decide +kernel
theorem dX1_put_4 : decode cX1_put 4 = .ok (.iload_n 1, 1) := by decide +kernel
theorem dX1_put_5 : decode cX1_put 5 = .ok (.aload_n 0, 1) := by decide +kernel
theorem dX1_put_6 : decode cX1_put 6 = .ok (.getfield 15, 3) := by decide +kernel
theorem dX1_put_9 : decode cX1_put 9 = .ok (.bipush 8, 2) := by decide +kernel
theorem dX1_put_11 : decode cX1_put 11 = .ok (.if_icmp .ne 8, 3) := by decide +kernel
theorem dX1_put_14 : decode cX1_put 14 = .ok (.iload_n 2, 1) := by decide +kernel
theorem dX1_put_15 : decode cX1_put 15 = .ok (.i2b, 1) := by decide +kernel
theorem dX1_put_16 : decode cX1_put 16 = .ok (.goto 18, 3) := by decide +kernel
theorem dX1_put_19 : decode cX1_put 19 = .ok (.aload_n 0, 1) := by decide +kernel
theorem dX1_put_20 : decode cX1_put 20 = .ok (.getfield 15, 3) := by decide +kernel
theorem dX1_put_23 : decode cX1_put 23 = .ok (.bipush 16, 2) := by decide +kernel
theorem dX1_put_25 : decode cX1_put 25 = .ok (.if_icmp .ne 8, 3) := by decide +kernel
theorem dX1_put_28 : decode cX1_put 28 = .ok (.iload_n 2, 1) := by decide +kernel
theorem dX1_put_29 : decode cX1_put 29 = .ok (.i2s, 1) := by decide +kernel
theorem dX1_put_30 : decode cX1_put 30 = .ok (.goto 4, 3) := by decide +kernel
theorem dX1_put_33 : decode cX1_put 33 = .ok (.iload_n 2, 1) := by decide +kernel
theorem dX1_put_34 : decode cX1_put 34 = .ok (.iastore, 1) := by decide +kernel
theorem dX1_put_35 : decode cX1_put 35 = .ok (.return_, 1) := by decide +kernel
theorem dX2_init_0 : decode cX2_init 0 = .ok (.aload_n 0, 1) := by decide +kernel
theorem dX2_init_1 : decode cX2_init 1 = .ok (.invokespecial 3, 3) := by decide +kernel
theorem dX2_init_4 : decode cX2_init 4 = .ok (.aload_n 0, 1) := by decide +kernel
theorem dX2_init_5 : decode cX2_init 5 = .ok (.bipush 120, 2) := by decide +kernel
theorem dX2_init_7 : decode cX2_init 7 = .ok (.newarray .int, 2) := by decide +kernel
theorem dX2_init_9 : decode cX2_init 9 = .ok (.putfield 9, 3) := by decide +kernel
theorem dX2_init_12 : decode cX2_init 12 = .ok (.return_, 1) := by decide +kernel
theorem dX2_append_0 : decode cX2_append 0 = .ok (.iload_n 2, 1) := by decide +kernel
theorem dX2_append_1 : decode cX2_append 1 = .ok (.iconst 1, 1) := by decide +kernel
theorem dX2_append_2 : decode cX2_append 2 = .ok (.isub, 1) := by decide +kernel
theorem dX2_append_3 : decode cX2_append 3 = .ok (.istore_n 3, 1) := by decide +kernel
theorem dX2_append_4 : decode cX2_append 4 = .ok (.iload_n 3, 1) := by decide +kernel
theorem dX2_append_5 : decode cX2_append 5 = .ok (.ifCond .lt 54, 3) := by decide +kernel
theorem dX2_append_8 : decode cX2_append 8 = .ok (.aload_n 0, 1) := by decide +kernel
theorem dX2_append_9 : decode cX2_append 9 = .ok (.getfield 15, 3) := by decide +kernel
theorem dX2_append_12 : decode cX2_append 12 = .ok (.ifCond .lt 47, 3) := by decide +kernel
theorem dX2_append_15 : decode cX2_append 15 = .ok (.aload_n 0, 1) := by decide +kernel
theorem dX2_append_16 : decode cX2_append 16 = .ok (.getfield 15, 3) := by decide +kernel
theorem dX2_append_19 : decode cX2_append 19 = .ok (.bipush 120, 2) := by decide +kernel
theorem dX2_append_21 : decode cX2_append 21 = .ok (.if_icmp .ge 38, 3) := by decide +kernel
theorem dX2_append_24 : decode cX2_append 24 = .ok (.aload_n 0, 1) := by decide +kernel
theorem dX2_append_25 : decode cX2_append 25 = .ok (.getfield 9, 3) := by decide +kernel
theorem dX2_append_28 : decode cX2_append 28 = .ok (.aload_n 0, 1) := by decide +kernel
theorem dX2_append_29 : decode cX2_append 29 = .ok (.getfield 15, 3) := by decide +kernel
theorem dX2_append_32 : decode cX2_append 32 = .ok (.iload_n 1, 1) := by decide +kernel
theorem dX2_append_33 : decode cX2_append 33 = .ok (.bipush 8, 2) := by decide +kernel
theorem dX2_append_35 : decode cX2_append 35 = .ok (.iload_n 3, 1) := by decide +kernel
theorem dX2_append_36 : decode cX2_append 36 = .ok (.imul, 1) := by decide +kernel
theorem dX2_append_37 : decode cX2_append 37 = .ok (.iushr, 1) := by decide +kernel
theorem dX2_append_38 : decode cX2_append 38 = .ok (.sipush 255, 3) := by decide +kernel
theorem dX2_append_41 : decode cX2_append 41 = .ok (.iand, 1) := by decide +kernel
theorem dX2_append_42 : decode cX2_append 42 = .ok (.iastore, 1) := by decide +kernel
theorem dX2_append_43 : decode cX2_append 43 = .ok (.aload_n 0, 1) := by decide +kernel
theorem dX2_append_44 : decode cX2_append 44 = .ok (.dup, 1) := by decide +kernel
theorem dX2_append_45 : decode cX2_append 45 = .ok (.getfield 15, 3) := by decide +kernel
theorem dX2_append_48 : decode cX2_append 48 = .ok (.iconst 1, 1) := by decide +kernel
theorem dX2_append_49 : decode cX2_append 49 = .ok (.iadd, 1) := by decide +kernel
theorem dX2_append_50 : decode cX2_append 50 = .ok (.putfield 15, 3) := by decide +kernel
theorem dX2_append_53 : decode cX2_append 53 = .ok (.iinc 3 (-1), 3) := by decide +kernel
theorem dX2_append_56 : decode cX2_append 56 = .ok (.goto (-52), 3) := by decide +kernel
theorem dX2_append_59 : decode cX2_append 59 = .ok (.return_, 1) := by decide +kernel
theorem dX2_byteAt_0 : decode cX2_byteAt 0 = .ok (.iload_n 1, 1) := by decide +kernel
theorem dX2_byteAt_1 : decode cX2_byteAt 1 = .ok (.ifCond .lt 26, 3) := by decide +kernel
theorem dX2_byteAt_4 : decode cX2_byteAt 4 = .ok (.iload_n 1, 1) := by decide +kernel
theorem dX2_byteAt_5 : decode cX2_byteAt 5 = .ok (.aload_n 0, 1) := by decide +kernel
theorem dX2_byteAt_6 : decode cX2_byteAt 6 = .ok (.getfield 15, 3) := by decide +kernel
theorem dX2_byteAt_9 : decode cX2_byteAt 9 = .ok (.if_icmp .ge 18, 3) := by decide +kernel
theorem dX2_byteAt_12 : decode cX2_byteAt 12 = .ok (.iload_n 1, 1) := by decide +kernel
theorem dX2_byteAt_13 : decode cX2_byteAt 13 = .ok (.bipush 120, 2) := by decide +kernel
theorem dX2_byteAt_15 : decode cX2_byteAt 15 = .ok (.if_icmp .ge 12, 3) := by decide +kernel
theorem dX2_byteAt_18 : decode cX2_byteAt 18 = .ok (.aload_n 0, 1) := by decide +kernel
theorem dX2_byteAt_19 : decode cX2_byteAt 19 = .ok (.getfield 9, 3) := by decide +kernel
theorem dX2_byteAt_22 : decode cX2_byteAt 22 = .ok (.iload_n 1, 1) := by decide +kernel
theorem dX2_byteAt_23 : decode cX2_byteAt 23 = .ok (.iaload, 1) := by decide +kernel
theorem dX2_byteAt_24 : decode cX2_byteAt 24 = .ok (.goto 4, 3) := by decide +kernel
theorem dX2_byteAt_27 : decode cX2_byteAt 27 = .ok (.iconst (-1), 1) := by decide +kernel
theorem dX2_byteAt_28 : decode cX2_byteAt 28 = .ok (.ireturn, 1) := by decide +kernel
theorem dX3_init_0 : decode cX3_init 0 = .ok (.aload_n 0, 1) := by decide +kernel
theorem dX3_init_1 : decode cX3_init 1 = .ok (.invokespecial 3, 3) := by decide +kernel
theorem dX3_init_4 : decode cX3_init 4 = .ok (.aload_n 0, 1) := by decide +kernel
theorem dX3_init_5 : decode cX3_init 5 = .ok (.new 9, 3) := by decide +kernel
theorem dX3_init_8 : decode cX3_init 8 = .ok (.dup, 1) := by decide +kernel
theorem dX3_init_9 : decode cX3_init 9 = .ok (.invokespecial 11, 3) := by decide +kernel
theorem dX3_init_12 : decode cX3_init 12 = .ok (.putfield 12, 3) := by decide +kernel
theorem dX3_init_15 : decode cX3_init 15 = .ok (.aload_n 0, 1) := by decide +kernel
theorem dX3_init_16 : decode cX3_init 16 = .ok (.new 18, 3) := by decide +kernel
theorem dX3_init_19 : decode cX3_init 19 = .ok (.dup, 1) := by decide +kernel
theorem dX3_init_20 : decode cX3_init 20 = .ok (.invokespecial 20, 3) := by decide +kernel
theorem dX3_init_23 : decode cX3_init 23 = .ok (.putfield 21, 3) := by decide +kernel
theorem dX3_init_26 : decode cX3_init 26 = .ok (.return_, 1) := by decide +kernel
theorem dX3_read_0 : decode cX3_read 0 = .ok (.aload_n 0, 1) := by decide +kernel
theorem dX3_read_1 : decode cX3_read 1 = .ok (.getfield 21, 3) := by decide +kernel
theorem dX3_read_4 : decode cX3_read 4 = .ok (.aload_n 1, 1) := by decide +kernel
theorem dX3_read_5 : decode cX3_read 5 = .ok (.invokevirtual 25, 3) := by decide +kernel
theorem dX3_read_8 : decode cX3_read 8 = .ok (.aload_n 0, 1) := by decide +kernel
theorem dX3_read_9 : decode cX3_read 9 = .ok (.iconst 0, 1) := by decide +kernel
theorem dX3_read_10 : decode cX3_read 10 = .ok (.putfield 29, 3) := by decide +kernel
theorem dX3_read_13 : decode cX3_read 13 = .ok (.aload_n 0, 1) := by decide +kernel
theorem dX3_read_14 : decode cX3_read 14 = .ok (.invokevirtual 33, 3) := by decide +kernel
theorem dX3_read_17 : decode cX3_read 17 = .ok (.iconst 1, 1) := by decide +kernel
theorem dX3_read_18 : decode cX3_read 18 = .ok (.istore_n 2, 1) := by decide +kernel
theorem dX3_read_19 : decode cX3_read 19 = .ok (.iload_n 2, 1) := by decide +kernel
theorem dX3_read_20 : decode cX3_read 20 = .ok (.bipush 120, 2) := by decide +kernel
theorem dX3_read_22 : decode cX3_read 22 = .ok (.if_icmp .gt 48, 3) := by decide +kernel
theorem dX3_read_25 : decode cX3_read 25 = .ok (.aload_n 0, 1) := by decide +kernel
theorem dX3_read_26 : decode cX3_read 26 = .ok (.invokevirtual 36, 3) := by decide +kernel
theorem dX3_read_29 : decode cX3_read 29 = .ok (.ifCond .eq 41, 3) := by decide +kernel
theorem dX3_read_32 : decode cX3_read 32 = .ok (.aload_n 0, 1) := by decide +kernel
theorem dX3_read_33 : decode cX3_read 33 = .ok (.getfield 40, 3) := by decide +kernel
theorem dX3_read_36 : decode cX3_read 36 = .ok (.ifCond .ne 13, 3) := by decide +kernel
theorem dX3_read_39 : decode cX3_read 39 = .ok (.aload_n 1, 1) := by decide +kernel
theorem dX3_read_40 : decode cX3_read 40 = .ok (.aload_n 0, 1) := by decide +kernel
theorem dX3_read_41 : decode cX3_read 41 = .ok (.getfield 21, 3) := by decide +kernel
theorem dX3_read_44 : decode cX3_read 44 = .ok (.invokevirtual 25, 3) := by decide +kernel
theorem dX3_read_47 : decode cX3_read 47 = .ok (.iload_n 2, 1) := by decide +kernel
theorem dX3_read_48 : decode cX3_read 48 = .ok (.ireturn, 1) := by decide +kernel
theorem dX3_read_49 : decode cX3_read 49 = .ok (.aload_n 0, 1) := by decide +kernel
theorem dX3_read_50 : decode cX3_read 50 = .ok (.getfield 40, 3) := by decide +kernel
theorem dX3_read_53 : decode cX3_read 53 = .ok (.iconst 3, 1) := by decide +kernel
theorem dX3_read_54 : decode cX3_read 54 = .ok (.if_icmp .eq 6, 3) := by decide +kernel
theorem dX3_read_57 : decode cX3_read 57 = .ok (.goto 13, 3) := by decide +kernel
theorem dX3_read_60 : decode cX3_read 60 = .ok (.aload_n 0, 1) := by decide +kernel
theorem dX3_read_61 : decode cX3_read 61 = .ok (.invokevirtual 33, 3) := by decide +kernel
theorem dX3_read_64 : decode cX3_read 64 = .ok (.iinc 2 1, 3) := by decide +kernel
theorem dX3_read_67 : decode cX3_read 67 = .ok (.goto (-48), 3) := by decide +kernel
theorem dX3_read_70 : decode cX3_read 70 = .ok (.iconst (-1), 1) := by decide +kernel
theorem dX3_read_71 : decode cX3_read 71 = .ok (.aload_n 0, 1) := by decide +kernel
theorem dX3_read_72 : decode cX3_read 72 = .ok (.getfield 43, 3) := by decide +kernel
theorem dX3_read_75 : decode cX3_read 75 = .ok (.isub, 1) := by decide +kernel
theorem dX3_read_76 : decode cX3_read 76 = .ok (.ireturn, 1) := by decide +kernel
theorem dX3_readItem_0 : decode cX3_readItem 0 = .ok (.aload_n 0, 1) := by decide +kernel
theorem dX3_readItem_1 : decode cX3_readItem 1 = .ok (.invokevirtual 46, 3) := by decide +kernel
theorem dX3_readItem_4 : decode cX3_readItem 4 = .ok (.istore_n 1, 1) := by decide +kernel
theorem dX3_readItem_5 : decode cX3_readItem 5 = .ok (.iload_n 1, 1) := by decide +kernel
theorem dX3_readItem_6 : decode cX3_readItem 6 = .ok (.ifCond .lt 9, 3) := by decide +kernel
theorem dX3_readItem_9 : decode cX3_readItem 9 = .ok (.aload_n 0, 1) := by decide +kernel
theorem dX3_readItem_10 : decode cX3_readItem 10 = .ok (.iload_n 1, 1) := by decide +kernel
theorem dX3_readItem_11 : decode cX3_readItem 11 = .ok (.invokevirtual 50, 3) := by decide +kernel
theorem dX3_readItem_14 : decode cX3_readItem 14 = .ok (.ireturn, 1) := by decide +kernel
theorem dX3_readItem_15 : decode cX3_readItem 15 = .ok (.aload_n 0, 1) := by decide +kernel
theorem dX3_readItem_16 : decode cX3_readItem 16 = .ok (.ldc 54, 2) := by decide +kernel
theorem dX3_readItem_18 : decode cX3_readItem 18 = .ok (.invokevirtual 56, 3) := by decide +kernel
theorem dX3_readItem_21 : decode cX3_readItem 21 = .ok (.ifCond .eq 8, 3) := by decide +kernel
theorem dX3_readItem_24 : decode cX3_readItem 24 = .ok (.aload_n 0, 1) := by decide +kernel
theorem dX3_readItem_25 : decode cX3_readItem 25 = .ok (.invokevirtual 60, 3) := by decide +kernel
theorem dX3_readItem_28 : decode cX3_readItem 28 = .ok (.ireturn, 1) := by decide +kernel
theorem dX3_readItem_29 : decode cX3_readItem 29 = .ok (.aload_n 0, 1) := by decide +kernel
theorem dX3_readItem_30 : decode cX3_readItem 30 = .ok (.ldc 63, 2) := by decide +kernel
theorem dX3_readItem_32 : decode cX3_readItem 32 = .ok (.invokevirtual 56, 3) := by decide +kernel
theorem dX3_readItem_35 : decode cX3_readItem 35 = .ok (.ifCond .eq 14, 3) := by decide +kernel
theorem dX3_readItem_38 : decode cX3_readItem 38 = .ok (.aload_n 0, 1) := by decide +kernel
theorem dX3_readItem_39 : decode cX3_readItem 39 = .ok (.invokevirtual 65, 3) := by decide +kernel
theorem dX3_readItem_42 : decode cX3_readItem 42 = .ok (.ifCond .eq 7, 3) := by decide +kernel
theorem dX3_readItem_45 : decode cX3_readItem 45 = .ok (.iconst 1, 1) := by decide +kernel
theorem dX3_readItem_46 : decode cX3_readItem 46 = .ok (.goto 4, 3) := by decide +kernel
theorem dX3_readItem_49 : decode cX3_readItem 49 = .ok (.iconst 0, 1) := by decide +kernel
theorem dX3_readItem_50 : decode cX3_readItem 50 = .ok (.ireturn, 1) := by decide +kernel
theorem dX3_readRoom_0 : decode cX3_readRoom 0 = .ok (.aload_n 0, 1) := by decide +kernel
theorem dX3_readRoom_1 : decode cX3_readRoom 1 = .ok (.getfield 21, 3) := by decide +kernel
theorem dX3_readRoom_4 : decode cX3_readRoom 4 = .ok (.getfield 68, 3) := by decide +kernel
theorem dX3_readRoom_7 : decode cX3_readRoom 7 = .ok (.bipush 8, 2) := by decide +kernel
theorem dX3_readRoom_9 : decode cX3_readRoom 9 = .ok (.if_icmp .lt 5, 3) := by decide +kernel
theorem dX3_readRoom_12 : decode cX3_readRoom 12 = .ok (.iconst 0, 1) := by decide +kernel
theorem dX3_readRoom_13 : decode cX3_readRoom 13 = .ok (.ireturn, 1) := by decide +kernel
theorem dX3_readRoom_14 : decode cX3_readRoom 14 = .ok (.aload_n 0, 1) := by decide +kernel
theorem dX3_readRoom_15 : decode cX3_readRoom 15 = .ok (.getfield 21, 3) := by decide +kernel
theorem dX3_readRoom_18 : decode cX3_readRoom 18 = .ok (.iload_n 1, 1) := by decide +kernel
theorem dX3_readRoom_19 : decode cX3_readRoom 19 = .ok (.invokevirtual 71, 3) := by decide +kernel
theorem dX3_readRoom_22 : decode cX3_readRoom 22 = .ok (.istore_n 2, 1) := by decide +kernel
theorem dX3_readRoom_23 : decode cX3_readRoom 23 = .ok (.aload_n 0, 1) := by decide +kernel
theorem dX3_readRoom_24 : decode cX3_readRoom 24 = .ok (.invokevirtual 33, 3) := by decide +kernel
theorem dX3_readRoom_27 : decode cX3_readRoom 27 = .ok (.iconst 1, 1) := by decide +kernel
theorem dX3_readRoom_28 : decode cX3_readRoom 28 = .ok (.istore_n 3, 1) := by decide +kernel
theorem dX3_readRoom_29 : decode cX3_readRoom 29 = .ok (.iload_n 3, 1) := by decide +kernel
theorem dX3_readRoom_30 : decode cX3_readRoom 30 = .ok (.iconst 4, 1) := by decide +kernel
theorem dX3_readRoom_31 : decode cX3_readRoom 31 = .ok (.if_icmp .gt 35, 3) := by decide +kernel
theorem dX3_readRoom_34 : decode cX3_readRoom 34 = .ok (.aload_n 0, 1) := by decide +kernel
theorem dX3_readRoom_35 : decode cX3_readRoom 35 = .ok (.iload_n 3, 1) := by decide +kernel
theorem dX3_readRoom_36 : decode cX3_readRoom 36 = .ok (.invokestatic 75, 3) := by decide +kernel
theorem dX3_readRoom_39 : decode cX3_readRoom 39 = .ok (.invokevirtual 56, 3) := by decide +kernel
theorem dX3_readRoom_42 : decode cX3_readRoom 42 = .ok (.ifCond .eq 18, 3) := by decide +kernel
theorem dX3_readRoom_45 : decode cX3_readRoom 45 = .ok (.aload_n 0, 1) := by decide +kernel
theorem dX3_readRoom_46 : decode cX3_readRoom 46 = .ok (.invokevirtual 33, 3) := by decide +kernel
theorem dX3_readRoom_49 : decode cX3_readRoom 49 = .ok (.aload_n 0, 1) := by decide +kernel
theorem dX3_readRoom_50 : decode cX3_readRoom 50 = .ok (.iload_n 2, 1) := by decide +kernel
theorem dX3_readRoom_51 : decode cX3_readRoom 51 = .ok (.iload_n 3, 1) := by decide +kernel
theorem dX3_readRoom_52 : decode cX3_readRoom 52 = .ok (.invokevirtual 79, 3) := by decide +kernel
theorem dX3_readRoom_55 : decode cX3_readRoom 55 = .ok (.ifCond .ne 5, 3) := by decide +kernel
theorem dX3_readRoom_58 : decode cX3_readRoom 58 = .ok (.iconst 0, 1) := by decide +kernel
theorem dX3_readRoom_59 : decode cX3_readRoom 59 = .ok (.ireturn, 1) := by decide +kernel
theorem dX3_readRoom_60 : decode cX3_readRoom 60 = .ok (.iinc 3 1, 3) := by decide +kernel
theorem dX3_readRoom_63 : decode cX3_readRoom 63 = .ok (.goto (-34), 3) := by decide +kernel
theorem dX3_readRoom_66 : decode cX3_readRoom 66 = .ok (.aload_n 0, 1) := by decide +kernel
theorem dX3_readRoom_67 : decode cX3_readRoom 67 = .ok (.ldc 83, 2) := by decide +kernel
theorem dX3_readRoom_69 : decode cX3_readRoom 69 = .ok (.invokevirtual 56, 3) := by decide +kernel
theorem dX3_readRoom_72 : decode cX3_readRoom 72 = .ok (.ifCond .eq 28, 3) := by decide +kernel
theorem dX3_readRoom_75 : decode cX3_readRoom 75 = .ok (.aload_n 0, 1) := by decide +kernel
theorem dX3_readRoom_76 : decode cX3_readRoom 76 = .ok (.getfield 21, 3) := by decide +kernel
theorem dX3_readRoom_79 : decode cX3_readRoom 79 = .ok (.iload_n 2, 1) := by decide +kernel
theorem dX3_readRoom_80 : decode cX3_readRoom 80 = .ok (.invokevirtual 85, 3) := by decide +kernel
theorem dX3_readRoom_83 : decode cX3_readRoom 83 = .ok (.ifCond .eq 17, 3) := by decide +kernel
theorem dX3_readRoom_86 : decode cX3_readRoom 86 = .ok (.aload_n 0, 1) := by decide +kernel
theorem dX3_readRoom_87 : decode cX3_readRoom 87 = .ok (.getfield 21, 3) := by decide +kernel
theorem dX3_readRoom_90 : decode cX3_readRoom 90 = .ok (.getfield 88, 3) := by decide +kernel
theorem dX3_readRoom_93 : decode cX3_readRoom 93 = .ok (.iload_n 2, 1) := by decide +kernel
theorem dX3_readRoom_94 : decode cX3_readRoom 94 = .ok (.iconst 1, 1) := by decide +kernel
theorem dX3_readRoom_95 : decode cX3_readRoom 95 = .ok (.iastore, 1) := by decide +kernel
theorem dX3_readRoom_96 : decode cX3_readRoom 96 = .ok (.aload_n 0, 1) := by decide +kernel
theorem dX3_readRoom_97 : decode cX3_readRoom 97 = .ok (.invokevirtual 33, 3) := by decide +kernel
theorem dX3_readRoom_100 : decode cX3_readRoom 100 = .ok (.iconst 1, 1) := by decide +kernel
theorem dX3_readRoom_101 : decode cX3_readRoom 101 = .ok (.ireturn, 1) := by decide +kernel
theorem dX3_readValue_0 : decode cX3_readValue 0 = .ok (.aload_n 0, 1) := by decide +kernel
theorem dX3_readValue_1 : decode cX3_readValue 1 = .ok (.getfield 21, 3) := by decide +kernel
theorem dX3_readValue_4 : decode cX3_readValue 4 = .ok (.iload_n 2, 1) := by decide +kernel
theorem dX3_readValue_5 : decode cX3_readValue 5 = .ok (.invokevirtual 91, 3) := by decide +kernel
theorem dX3_readValue_8 : decode cX3_readValue 8 = .ok (.astore_n 3, 1) := by decide +kernel
theorem dX3_readValue_9 : decode cX3_readValue 9 = .ok (.aload_n 0, 1) := by decide +kernel
theorem dX3_readValue_10 : decode cX3_readValue 10 = .ok (.getfield 40, 3) := by decide +kernel
theorem dX3_readValue_13 : decode cX3_readValue 13 = .ok (.iconst 2, 1) := by decide +kernel
theorem dX3_readValue_14 : decode cX3_readValue 14 = .ok (.if_icmp .ne 23, 3) := by decide +kernel
theorem dX3_readValue_17 : decode cX3_readValue 17 = .ok (.aload_n 3, 1) := by decide +kernel
theorem dX3_readValue_18 : decode cX3_readValue 18 = .ok (.ifnull 19, 3) := by decide +kernel
theorem dX3_readValue_21 : decode cX3_readValue 21 = .ok (.aload_n 0, 1) := by decide +kernel
theorem dX3_readValue_22 : decode cX3_readValue 22 = .ok (.getfield 21, 3) := by decide +kernel
theorem dX3_readValue_25 : decode cX3_readValue 25 = .ok (.iload_n 1, 1) := by decide +kernel
theorem dX3_readValue_26 : decode cX3_readValue 26 = .ok (.iload_n 2, 1) := by decide +kernel
theorem dX3_readValue_27 : decode cX3_readValue 27 = .ok (.aload_n 0, 1) := by decide +kernel
theorem dX3_readValue_28 : decode cX3_readValue 28 = .ok (.getfield 95, 3) := by decide +kernel
theorem dX3_readValue_31 : decode cX3_readValue 31 = .ok (.invokevirtual 98, 3) := by decide +kernel
theorem dX3_readValue_34 : decode cX3_readValue 34 = .ok (.ifCond .ne 5, 3) := by decide +kernel
theorem dX3_readValue_37 : decode cX3_readValue 37 = .ok (.iconst 0, 1) := by decide +kernel
theorem dX3_readValue_38 : decode cX3_readValue 38 = .ok (.ireturn, 1) := by decide +kernel
theorem dX3_readValue_39 : decode cX3_readValue 39 = .ok (.aload_n 3, 1) := by decide +kernel
theorem dX3_readValue_40 : decode cX3_readValue 40 = .ok (.iload_n 1, 1) := by decide +kernel
theorem dX3_readValue_41 : decode cX3_readValue 41 = .ok (.aload_n 0, 1) := by decide +kernel
theorem dX3_readValue_42 : decode cX3_readValue 42 = .ok (.getfield 95, 3) := by decide +kernel
theorem dX3_readValue_45 : decode cX3_readValue 45 = .ok (.iastore, 1) := by decide +kernel
theorem dX3_readValue_46 : decode cX3_readValue 46 = .ok (.aload_n 0, 1) := by decide +kernel
theorem dX3_readValue_47 : decode cX3_readValue 47 = .ok (.invokevirtual 33, 3) := by decide +kernel
theorem dX3_readValue_50 : decode cX3_readValue 50 = .ok (.iconst 1, 1) := by decide +kernel
theorem dX3_readValue_51 : decode cX3_readValue 51 = .ok (.ireturn, 1) := by decide +kernel
theorem dX3_readOut_0 : decode cX3_readOut 0 = .ok (.aload_n 0, 1) := by decide +kernel
theorem dX3_readOut_1 : decode cX3_readOut 1 = .ok (.invokevirtual 33, 3) := by decide +kernel
theorem dX3_readOut_4 : decode cX3_readOut 4 = .ok (.aload_n 0, 1) := by decide +kernel
theorem dX3_readOut_5 : decode cX3_readOut 5 = .ok (.getfield 40, 3) := by decide +kernel
theorem dX3_readOut_8 : decode cX3_readOut 8 = .ok (.iconst 2, 1) := by decide +kernel
theorem dX3_readOut_9 : decode cX3_readOut 9 = .ok (.if_icmp .ne 12, 3) := by decide +kernel
theorem dX3_readOut_12 : decode cX3_readOut 12 = .ok (.aload_n 0, 1) := by decide +kernel
theorem dX3_readOut_13 : decode cX3_readOut 13 = .ok (.getfield 95, 3) := by decide +kernel
theorem dX3_readOut_16 : decode cX3_readOut 16 = .ok (.bipush 100, 2) := by decide +kernel
theorem dX3_readOut_18 : decode cX3_readOut 18 = .ok (.if_icmp .le 5, 3) := by decide +kernel
theorem dX3_readOut_21 : decode cX3_readOut 21 = .ok (.iconst 0, 1) := by decide +kernel
theorem dX3_readOut_22 : decode cX3_readOut 22 = .ok (.ireturn, 1) := by decide +kernel
theorem dX3_readOut_23 : decode cX3_readOut 23 = .ok (.aload_n 0, 1) := by decide +kernel
theorem dX3_readOut_24 : decode cX3_readOut 24 = .ok (.getfield 21, 3) := by decide +kernel
theorem dX3_readOut_27 : decode cX3_readOut 27 = .ok (.aload_n 0, 1) := by decide +kernel
theorem dX3_readOut_28 : decode cX3_readOut 28 = .ok (.getfield 95, 3) := by decide +kernel
theorem dX3_readOut_31 : decode cX3_readOut 31 = .ok (.putfield 102, 3) := by decide +kernel
theorem dX3_readOut_34 : decode cX3_readOut 34 = .ok (.aload_n 0, 1) := by decide +kernel
theorem dX3_readOut_35 : decode cX3_readOut 35 = .ok (.invokevirtual 33, 3) := by decide +kernel
theorem dX3_readOut_38 : decode cX3_readOut 38 = .ok (.iconst 1, 1) := by decide +kernel
theorem dX3_readOut_39 : decode cX3_readOut 39 = .ok (.ireturn, 1) := by decide +kernel
theorem dX3_readDamper_0 : decode cX3_readDamper 0 = .ok (.aload_n 0, 1) := by decide +kernel
theorem dX3_readDamper_1 : decode cX3_readDamper 1 = .ok (.invokevirtual 33, 3) := by decide +kernel
theorem dX3_readDamper_4 : decode cX3_readDamper 4 = .ok (.aload_n 0, 1) := by decide +kernel
theorem dX3_readDamper_5 : decode cX3_readDamper 5 = .ok (.getfield 40, 3) := by decide +kernel
theorem dX3_readDamper_8 : decode cX3_readDamper 8 = .ok (.iconst 2, 1) := by decide +kernel
theorem dX3_readDamper_9 : decode cX3_readDamper 9 = .ok (.if_icmp .ne 17, 3) := by decide +kernel
theorem dX3_readDamper_12 : decode cX3_readDamper 12 = .ok (.aload_n 0, 1) := by decide +kernel
theorem dX3_readDamper_13 : decode cX3_readDamper 13 = .ok (.getfield 21, 3) := by decide +kernel
theorem dX3_readDamper_16 : decode cX3_readDamper 16 = .ok (.aload_n 0, 1) := by decide +kernel
theorem dX3_readDamper_17 : decode cX3_readDamper 17 = .ok (.getfield 95, 3) := by decide +kernel
theorem dX3_readDamper_20 : decode cX3_readDamper 20 = .ok (.invokevirtual 85, 3) := by decide +kernel
theorem dX3_readDamper_23 : decode cX3_readDamper 23 = .ok (.ifCond .ne 5, 3) := by decide +kernel
theorem dX3_readDamper_26 : decode cX3_readDamper 26 = .ok (.iconst 0, 1) := by decide +kernel
theorem dX3_readDamper_27 : decode cX3_readDamper 27 = .ok (.ireturn, 1) := by decide +kernel
theorem dX3_readDamper_28 : decode cX3_readDamper 28 = .ok (.aload_n 0, 1) := by decide +kernel
theorem dX3_readDamper_29 : decode cX3_readDamper 29 = .ok (.getfield 95, 3) := by decide +kernel
theorem dX3_readDamper_32 : decode cX3_readDamper 32 = .ok (.istore_n 1, 1) := by decide +kernel
theorem dX3_readDamper_33 : decode cX3_readDamper 33 = .ok (.aload_n 0, 1) := by decide +kernel
theorem dX3_readDamper_34 : decode cX3_readDamper 34 = .ok (.invokevirtual 33, 3) := by decide +kernel
theorem dX3_readDamper_37 : decode cX3_readDamper 37 = .ok (.aload_n 0, 1) := by decide +kernel
theorem dX3_readDamper_38 : decode cX3_readDamper 38 = .ok (.iload_n 1, 1) := by decide +kernel
theorem dX3_readDamper_39 : decode cX3_readDamper 39 = .ok (.bipush 6, 2) := by decide +kernel
theorem dX3_readDamper_41 : decode cX3_readDamper 41 = .ok (.invokevirtual 79, 3) := by decide +kernel
theorem dX3_readDamper_44 : decode cX3_readDamper 44 = .ok (.ireturn, 1) := by decide +kernel
theorem dX3_kindTold_0 : decode cX3_kindTold 0 = .ok (.iconst 0, 1) := by decide +kernel
theorem dX3_kindTold_1 : decode cX3_kindTold 1 = .ok (.istore_n 1, 1) := by decide +kernel
theorem dX3_kindTold_2 : decode cX3_kindTold 2 = .ok (.iload_n 1, 1) := by decide +kernel
theorem dX3_kindTold_3 : decode cX3_kindTold 3 = .ok (.bipush 6, 2) := by decide +kernel
theorem dX3_kindTold_5 : decode cX3_kindTold 5 = .ok (.if_icmp .gt 22, 3) := by decide +kernel
theorem dX3_kindTold_8 : decode cX3_kindTold 8 = .ok (.aload_n 0, 1) := by decide +kernel
theorem dX3_kindTold_9 : decode cX3_kindTold 9 = .ok (.iload_n 1, 1) := by decide +kernel
theorem dX3_kindTold_10 : decode cX3_kindTold 10 = .ok (.invokestatic 104, 3) := by decide +kernel
theorem dX3_kindTold_13 : decode cX3_kindTold 13 = .ok (.invokevirtual 56, 3) := by decide +kernel
theorem dX3_kindTold_16 : decode cX3_kindTold 16 = .ok (.ifCond .eq 5, 3) := by decide +kernel
theorem dX3_kindTold_19 : decode cX3_kindTold 19 = .ok (.iload_n 1, 1) := by decide +kernel
theorem dX3_kindTold_20 : decode cX3_kindTold 20 = .ok (.ireturn, 1) := by decide +kernel
theorem dX3_kindTold_21 : decode cX3_kindTold 21 = .ok (.iinc 1 1, 3) := by decide +kernel
theorem dX3_kindTold_24 : decode cX3_kindTold 24 = .ok (.goto (-22), 3) := by decide +kernel
theorem dX3_kindTold_27 : decode cX3_kindTold 27 = .ok (.iconst (-1), 1) := by decide +kernel
theorem dX3_kindTold_28 : decode cX3_kindTold 28 = .ok (.ireturn, 1) := by decide +kernel
theorem dX3_wordOfKind_0 : decode cX3_wordOfKind 0 = .ok (.iload_n 0, 1) := by decide +kernel
theorem dX3_wordOfKind_1 : decode cX3_wordOfKind 1 = .ok (.tableswitch 57 0 5 #[39, 42, 45, 48, 51, 54], 39) := by decide +kernel
theorem dX3_wordOfKind_40 : decode cX3_wordOfKind 40 = .ok (.ldc 107, 2) := by decide +kernel
theorem dX3_wordOfKind_42 : decode cX3_wordOfKind 42 = .ok (.areturn, 1) := by decide +kernel
theorem dX3_wordOfKind_43 : decode cX3_wordOfKind 43 = .ok (.ldc 109, 2) := by decide +kernel
theorem dX3_wordOfKind_45 : decode cX3_wordOfKind 45 = .ok (.areturn, 1) := by decide +kernel
theorem dX3_wordOfKind_46 : decode cX3_wordOfKind 46 = .ok (.ldc 111, 2) := by decide +kernel
theorem dX3_wordOfKind_48 : decode cX3_wordOfKind 48 = .ok (.areturn, 1) := by decide +kernel
theorem dX3_wordOfKind_49 : decode cX3_wordOfKind 49 = .ok (.ldc 113, 2) := by decide +kernel
theorem dX3_wordOfKind_51 : decode cX3_wordOfKind 51 = .ok (.areturn, 1) := by decide +kernel
theorem dX3_wordOfKind_52 : decode cX3_wordOfKind 52 = .ok (.ldc 115, 2) := by decide +kernel
theorem dX3_wordOfKind_54 : decode cX3_wordOfKind 54 = .ok (.areturn, 1) := by decide +kernel
theorem dX3_wordOfKind_55 : decode cX3_wordOfKind 55 = .ok (.ldc 117, 2) := by decide +kernel
theorem dX3_wordOfKind_57 : decode cX3_wordOfKind 57 = .ok (.areturn, 1) := by decide +kernel
theorem dX3_wordOfKind_58 : decode cX3_wordOfKind 58 = .ok (.ldc 119, 2) := by decide +kernel
theorem dX3_wordOfKind_60 : decode cX3_wordOfKind 60 = .ok (.areturn, 1) := by decide +kernel
theorem dX3_wordOfPart_0 : decode cX3_wordOfPart 0 = .ok (.iload_n 0, 1) := by decide +kernel
theorem dX3_wordOfPart_1 : decode cX3_wordOfPart 1 = .ok (.tableswitch 36 1 3 #[27, 30, 33], 27) := by decide +kernel
theorem dX3_wordOfPart_28 : decode cX3_wordOfPart 28 = .ok (.ldc 121, 2) := by decide +kernel
theorem dX3_wordOfPart_30 : decode cX3_wordOfPart 30 = .ok (.areturn, 1) := by decide +kernel
theorem dX3_wordOfPart_31 : decode cX3_wordOfPart 31 = .ok (.ldc 123, 2) := by decide +kernel
theorem dX3_wordOfPart_33 : decode cX3_wordOfPart 33 = .ok (.areturn, 1) := by decide +kernel
theorem dX3_wordOfPart_34 : decode cX3_wordOfPart 34 = .ok (.ldc 125, 2) := by decide +kernel
theorem dX3_wordOfPart_36 : decode cX3_wordOfPart 36 = .ok (.areturn, 1) := by decide +kernel
theorem dX3_wordOfPart_37 : decode cX3_wordOfPart 37 = .ok (.ldc 127, 2) := by decide +kernel
theorem dX3_wordOfPart_39 : decode cX3_wordOfPart 39 = .ok (.areturn, 1) := by decide +kernel
theorem dX3_isWord_0 : decode cX3_isWord 0 = .ok (.aload_n 0, 1) := by decide +kernel
theorem dX3_isWord_1 : decode cX3_isWord 1 = .ok (.getfield 40, 3) := by decide +kernel
theorem dX3_isWord_4 : decode cX3_isWord 4 = .ok (.iconst 1, 1) := by decide +kernel
theorem dX3_isWord_5 : decode cX3_isWord 5 = .ok (.if_icmp .ne 19, 3) := by decide +kernel
theorem dX3_isWord_8 : decode cX3_isWord 8 = .ok (.aload_n 0, 1) := by decide +kernel
theorem dX3_isWord_9 : decode cX3_isWord 9 = .ok (.getfield 29, 3) := by decide +kernel
theorem dX3_isWord_12 : decode cX3_isWord 12 = .ok (.aload_n 0, 1) := by decide +kernel
theorem dX3_isWord_13 : decode cX3_isWord 13 = .ok (.getfield 43, 3) := by decide +kernel
theorem dX3_isWord_16 : decode cX3_isWord 16 = .ok (.isub, 1) := by decide +kernel
theorem dX3_isWord_17 : decode cX3_isWord 17 = .ok (.aload_n 1, 1) := by decide +kernel
theorem dX3_isWord_18 : decode cX3_isWord 18 = .ok (.invokevirtual 129, 3) := by decide +kernel
theorem dX3_isWord_21 : decode cX3_isWord 21 = .ok (.if_icmp .eq 5, 3) := by decide +kernel
theorem dX3_isWord_24 : decode cX3_isWord 24 = .ok (.iconst 0, 1) := by decide +kernel
theorem dX3_isWord_25 : decode cX3_isWord 25 = .ok (.ireturn, 1) := by decide +kernel
theorem dX3_isWord_26 : decode cX3_isWord 26 = .ok (.iconst 0, 1) := by decide +kernel
theorem dX3_isWord_27 : decode cX3_isWord 27 = .ok (.istore_n 2, 1) := by decide +kernel
theorem dX3_isWord_28 : decode cX3_isWord 28 = .ok (.iload_n 2, 1) := by decide +kernel
theorem dX3_isWord_29 : decode cX3_isWord 29 = .ok (.aload_n 1, 1) := by decide +kernel
theorem dX3_isWord_30 : decode cX3_isWord 30 = .ok (.invokevirtual 129, 3) := by decide +kernel
theorem dX3_isWord_33 : decode cX3_isWord 33 = .ok (.if_icmp .ge 32, 3) := by decide +kernel
theorem dX3_isWord_36 : decode cX3_isWord 36 = .ok (.aload_n 0, 1) := by decide +kernel
theorem dX3_isWord_37 : decode cX3_isWord 37 = .ok (.getfield 12, 3) := by decide +kernel
theorem dX3_isWord_40 : decode cX3_isWord 40 = .ok (.aload_n 0, 1) := by decide +kernel
theorem dX3_isWord_41 : decode cX3_isWord 41 = .ok (.getfield 43, 3) := by decide +kernel
theorem dX3_isWord_44 : decode cX3_isWord 44 = .ok (.iload_n 2, 1) := by decide +kernel
theorem dX3_isWord_45 : decode cX3_isWord 45 = .ok (.iadd, 1) := by decide +kernel
theorem dX3_isWord_46 : decode cX3_isWord 46 = .ok (.invokevirtual 134, 3) := by decide +kernel
theorem dX3_isWord_49 : decode cX3_isWord 49 = .ok (.aload_n 1, 1) := by decide +kernel
theorem dX3_isWord_50 : decode cX3_isWord 50 = .ok (.iload_n 2, 1) := by decide +kernel
theorem dX3_isWord_51 : decode cX3_isWord 51 = .ok (.invokevirtual 137, 3) := by decide +kernel
theorem dX3_isWord_54 : decode cX3_isWord 54 = .ok (.if_icmp .eq 5, 3) := by decide +kernel
theorem dX3_isWord_57 : decode cX3_isWord 57 = .ok (.iconst 0, 1) := by decide +kernel
theorem dX3_isWord_58 : decode cX3_isWord 58 = .ok (.ireturn, 1) := by decide +kernel
theorem dX3_isWord_59 : decode cX3_isWord 59 = .ok (.iinc 2 1, 3) := by decide +kernel
theorem dX3_isWord_62 : decode cX3_isWord 62 = .ok (.goto (-34), 3) := by decide +kernel
theorem dX3_isWord_65 : decode cX3_isWord 65 = .ok (.iconst 1, 1) := by decide +kernel
theorem dX3_isWord_66 : decode cX3_isWord 66 = .ok (.ireturn, 1) := by decide +kernel
theorem dX3_step_0 : decode cX3_step 0 = .ok (.aload_n 0, 1) := by decide +kernel
theorem dX3_step_1 : decode cX3_step 1 = .ok (.aload_n 0, 1) := by decide +kernel
theorem dX3_step_2 : decode cX3_step 2 = .ok (.getfield 29, 3) := by decide +kernel
theorem dX3_step_5 : decode cX3_step 5 = .ok (.putfield 43, 3) := by decide +kernel
theorem dX3_step_8 : decode cX3_step 8 = .ok (.aload_n 0, 1) := by decide +kernel
theorem dX3_step_9 : decode cX3_step 9 = .ok (.getfield 43, 3) := by decide +kernel
theorem dX3_step_12 : decode cX3_step 12 = .ok (.aload_n 0, 1) := by decide +kernel
theorem dX3_step_13 : decode cX3_step 13 = .ok (.getfield 12, 3) := by decide +kernel
theorem dX3_step_16 : decode cX3_step 16 = .ok (.getfield 141, 3) := by decide +kernel
theorem dX3_step_19 : decode cX3_step 19 = .ok (.if_icmp .ge 32, 3) := by decide +kernel
theorem dX3_step_22 : decode cX3_step 22 = .ok (.aload_n 0, 1) := by decide +kernel
theorem dX3_step_23 : decode cX3_step 23 = .ok (.getfield 12, 3) := by decide +kernel
theorem dX3_step_26 : decode cX3_step 26 = .ok (.aload_n 0, 1) := by decide +kernel
theorem dX3_step_27 : decode cX3_step 27 = .ok (.getfield 43, 3) := by decide +kernel
theorem dX3_step_30 : decode cX3_step 30 = .ok (.invokevirtual 134, 3) := by decide +kernel
theorem dX3_step_33 : decode cX3_step 33 = .ok (.bipush 32, 2) := by decide +kernel
theorem dX3_step_35 : decode cX3_step 35 = .ok (.if_icmp .ne 16, 3) := by decide +kernel
theorem dX3_step_38 : decode cX3_step 38 = .ok (.aload_n 0, 1) := by decide +kernel
theorem dX3_step_39 : decode cX3_step 39 = .ok (.dup, 1) := by decide +kernel
theorem dX3_step_40 : decode cX3_step 40 = .ok (.getfield 43, 3) := by decide +kernel
theorem dX3_step_43 : decode cX3_step 43 = .ok (.iconst 1, 1) := by decide +kernel
theorem dX3_step_44 : decode cX3_step 44 = .ok (.iadd, 1) := by decide +kernel
theorem dX3_step_45 : decode cX3_step 45 = .ok (.putfield 43, 3) := by decide +kernel
theorem dX3_step_48 : decode cX3_step 48 = .ok (.goto (-40), 3) := by decide +kernel
theorem dX3_step_51 : decode cX3_step 51 = .ok (.aload_n 0, 1) := by decide +kernel
theorem dX3_step_52 : decode cX3_step 52 = .ok (.aload_n 0, 1) := by decide +kernel
theorem dX3_step_53 : decode cX3_step 53 = .ok (.getfield 12, 3) := by decide +kernel
theorem dX3_step_56 : decode cX3_step 56 = .ok (.aload_n 0, 1) := by decide +kernel
theorem dX3_step_57 : decode cX3_step 57 = .ok (.getfield 43, 3) := by decide +kernel
theorem dX3_step_60 : decode cX3_step 60 = .ok (.invokevirtual 134, 3) := by decide +kernel
theorem dX3_step_63 : decode cX3_step 63 = .ok (.invokestatic 143, 3) := by decide +kernel
theorem dX3_step_66 : decode cX3_step 66 = .ok (.putfield 40, 3) := by decide +kernel
theorem dX3_step_69 : decode cX3_step 69 = .ok (.aload_n 0, 1) := by decide +kernel
theorem dX3_step_70 : decode cX3_step 70 = .ok (.aload_n 0, 1) := by decide +kernel
theorem dX3_step_71 : decode cX3_step 71 = .ok (.getfield 43, 3) := by decide +kernel
theorem dX3_step_74 : decode cX3_step 74 = .ok (.putfield 29, 3) := by decide +kernel
theorem dX3_step_77 : decode cX3_step 77 = .ok (.aload_n 0, 1) := by decide +kernel
theorem dX3_step_78 : decode cX3_step 78 = .ok (.iconst 0, 1) := by decide +kernel
theorem dX3_step_79 : decode cX3_step 79 = .ok (.putfield 95, 3) := by decide +kernel
theorem dX3_step_82 : decode cX3_step 82 = .ok (.aload_n 0, 1) := by decide +kernel
theorem dX3_step_83 : decode cX3_step 83 = .ok (.getfield 29, 3) := by decide +kernel
theorem dX3_step_86 : decode cX3_step 86 = .ok (.aload_n 0, 1) := by decide +kernel
theorem dX3_step_87 : decode cX3_step 87 = .ok (.getfield 12, 3) := by decide +kernel
theorem dX3_step_90 : decode cX3_step 90 = .ok (.getfield 141, 3) := by decide +kernel
theorem dX3_step_93 : decode cX3_step 93 = .ok (.if_icmp .ge 96, 3) := by decide +kernel
theorem dX3_step_96 : decode cX3_step 96 = .ok (.aload_n 0, 1) := by decide +kernel
theorem dX3_step_97 : decode cX3_step 97 = .ok (.getfield 12, 3) := by decide +kernel
theorem dX3_step_100 : decode cX3_step 100 = .ok (.aload_n 0, 1) := by decide +kernel
theorem dX3_step_101 : decode cX3_step 101 = .ok (.getfield 29, 3) := by decide +kernel
theorem dX3_step_104 : decode cX3_step 104 = .ok (.invokevirtual 134, 3) := by decide +kernel
theorem dX3_step_107 : decode cX3_step 107 = .ok (.invokestatic 143, 3) := by decide +kernel
theorem dX3_step_110 : decode cX3_step 110 = .ok (.aload_n 0, 1) := by decide +kernel
theorem dX3_step_111 : decode cX3_step 111 = .ok (.getfield 40, 3) := by decide +kernel
theorem dX3_step_114 : decode cX3_step 114 = .ok (.if_icmp .ne 75, 3) := by decide +kernel
theorem dX3_step_117 : decode cX3_step 117 = .ok (.aload_n 0, 1) := by decide +kernel
theorem dX3_step_118 : decode cX3_step 118 = .ok (.getfield 40, 3) := by decide +kernel
theorem dX3_step_121 : decode cX3_step 121 = .ok (.iconst 3, 1) := by decide +kernel
theorem dX3_step_122 : decode cX3_step 122 = .ok (.if_icmp .ne 14, 3) := by decide +kernel
theorem dX3_step_125 : decode cX3_step 125 = .ok (.aload_n 0, 1) := by decide +kernel
theorem dX3_step_126 : decode cX3_step 126 = .ok (.getfield 29, 3) := by decide +kernel
theorem dX3_step_129 : decode cX3_step 129 = .ok (.aload_n 0, 1) := by decide +kernel
theorem dX3_step_130 : decode cX3_step 130 = .ok (.getfield 43, 3) := by decide +kernel
theorem dX3_step_133 : decode cX3_step 133 = .ok (.if_icmp .ne 56, 3) := by decide +kernel
theorem dX3_step_136 : decode cX3_step 136 = .ok (.aload_n 0, 1) := by decide +kernel
theorem dX3_step_137 : decode cX3_step 137 = .ok (.getfield 40, 3) := by decide +kernel
theorem dX3_step_140 : decode cX3_step 140 = .ok (.iconst 2, 1) := by decide +kernel
theorem dX3_step_141 : decode cX3_step 141 = .ok (.if_icmp .ne 35, 3) := by decide +kernel
theorem dX3_step_144 : decode cX3_step 144 = .ok (.aload_n 0, 1) := by decide +kernel
theorem dX3_step_145 : decode cX3_step 145 = .ok (.aload_n 0, 1) := by decide +kernel
theorem dX3_step_146 : decode cX3_step 146 = .ok (.getfield 95, 3) := by decide +kernel
theorem dX3_step_149 : decode cX3_step 149 = .ok (.bipush 10, 2) := by decide +kernel
theorem dX3_step_151 : decode cX3_step 151 = .ok (.imul, 1) := by decide +kernel
theorem dX3_step_152 : decode cX3_step 152 = .ok (.aload_n 0, 1) := by decide +kernel
theorem dX3_step_153 : decode cX3_step 153 = .ok (.getfield 12, 3) := by decide +kernel
theorem dX3_step_156 : decode cX3_step 156 = .ok (.aload_n 0, 1) := by decide +kernel
theorem dX3_step_157 : decode cX3_step 157 = .ok (.getfield 29, 3) := by decide +kernel
theorem dX3_step_160 : decode cX3_step 160 = .ok (.invokevirtual 134, 3) := by decide +kernel
theorem dX3_step_163 : decode cX3_step 163 = .ok (.iadd, 1) := by decide +kernel
theorem dX3_step_164 : decode cX3_step 164 = .ok (.bipush 48, 2) := by decide +kernel
theorem dX3_step_166 : decode cX3_step 166 = .ok (.isub, 1) := by decide +kernel
theorem dX3_step_167 : decode cX3_step 167 = .ok (.sipush 10000, 3) := by decide +kernel
theorem dX3_step_170 : decode cX3_step 170 = .ok (.invokestatic 146, 3) := by decide +kernel
theorem dX3_step_173 : decode cX3_step 173 = .ok (.putfield 95, 3) := by decide +kernel
theorem dX3_step_176 : decode cX3_step 176 = .ok (.aload_n 0, 1) := by decide +kernel
theorem dX3_step_177 : decode cX3_step 177 = .ok (.dup, 1) := by decide +kernel
theorem dX3_step_178 : decode cX3_step 178 = .ok (.getfield 29, 3) := by decide +kernel
theorem dX3_step_181 : decode cX3_step 181 = .ok (.iconst 1, 1) := by decide +kernel
theorem dX3_step_182 : decode cX3_step 182 = .ok (.iadd, 1) := by decide +kernel
theorem dX3_step_183 : decode cX3_step 183 = .ok (.putfield 29, 3) := by decide +kernel
theorem dX3_step_186 : decode cX3_step 186 = .ok (.goto (-104), 3) := by decide +kernel
theorem dX3_step_189 : decode cX3_step 189 = .ok (.return_, 1) := by decide +kernel
theorem dX3_tokenBegunBy_0 : decode cX3_tokenBegunBy 0 = .ok (.iload_n 0, 1) := by decide +kernel
theorem dX3_tokenBegunBy_1 : decode cX3_tokenBegunBy 1 = .ok (.ifCond .ge 5, 3) := by decide +kernel
theorem dX3_tokenBegunBy_4 : decode cX3_tokenBegunBy 4 = .ok (.iconst 0, 1) := by decide +kernel
theorem dX3_tokenBegunBy_5 : decode cX3_tokenBegunBy 5 = .ok (.ireturn, 1) := by decide +kernel
theorem dX3_tokenBegunBy_6 : decode cX3_tokenBegunBy 6 = .ok (.iload_n 0, 1) := by decide +kernel
theorem dX3_tokenBegunBy_7 : decode cX3_tokenBegunBy 7 = .ok (.bipush 97, 2) := by decide +kernel
theorem dX3_tokenBegunBy_9 : decode cX3_tokenBegunBy 9 = .ok (.if_icmp .lt 11, 3) := by decide +kernel
theorem dX3_tokenBegunBy_12 : decode cX3_tokenBegunBy 12 = .ok (.iload_n 0, 1) := by decide +kernel
theorem dX3_tokenBegunBy_13 : decode cX3_tokenBegunBy 13 = .ok (.bipush 122, 2) := by decide +kernel
theorem dX3_tokenBegunBy_15 : decode cX3_tokenBegunBy 15 = .ok (.if_icmp .gt 5, 3) := by decide +kernel
theorem dX3_tokenBegunBy_18 : decode cX3_tokenBegunBy 18 = .ok (.iconst 1, 1) := by decide +kernel
theorem dX3_tokenBegunBy_19 : decode cX3_tokenBegunBy 19 = .ok (.ireturn, 1) := by decide +kernel
theorem dX3_tokenBegunBy_20 : decode cX3_tokenBegunBy 20 = .ok (.iload_n 0, 1) := by decide +kernel
theorem dX3_tokenBegunBy_21 : decode cX3_tokenBegunBy 21 = .ok (.bipush 48, 2) := by decide +kernel
theorem dX3_tokenBegunBy_23 : decode cX3_tokenBegunBy 23 = .ok (.if_icmp .lt 11, 3) := by decide +kernel
theorem dX3_tokenBegunBy_26 : decode cX3_tokenBegunBy 26 = .ok (.iload_n 0, 1) := by decide +kernel
theorem dX3_tokenBegunBy_27 : decode cX3_tokenBegunBy 27 = .ok (.bipush 57, 2) := by decide +kernel
theorem dX3_tokenBegunBy_29 : decode cX3_tokenBegunBy 29 = .ok (.if_icmp .gt 5, 3) := by decide +kernel
theorem dX3_tokenBegunBy_32 : decode cX3_tokenBegunBy 32 = .ok (.iconst 2, 1) := by decide +kernel
theorem dX3_tokenBegunBy_33 : decode cX3_tokenBegunBy 33 = .ok (.ireturn, 1) := by decide +kernel
theorem dX3_tokenBegunBy_34 : decode cX3_tokenBegunBy 34 = .ok (.iload_n 0, 1) := by decide +kernel
theorem dX3_tokenBegunBy_35 : decode cX3_tokenBegunBy 35 = .ok (.bipush 59, 2) := by decide +kernel
theorem dX3_tokenBegunBy_37 : decode cX3_tokenBegunBy 37 = .ok (.if_icmp .ne 7, 3) := by decide +kernel
theorem dX3_tokenBegunBy_40 : decode cX3_tokenBegunBy 40 = .ok (.iconst 3, 1) := by decide +kernel
theorem dX3_tokenBegunBy_41 : decode cX3_tokenBegunBy 41 = .ok (.goto 4, 3) := by decide +kernel
theorem dX3_tokenBegunBy_44 : decode cX3_tokenBegunBy 44 = .ok (.iconst 4, 1) := by decide +kernel
theorem dX3_tokenBegunBy_45 : decode cX3_tokenBegunBy 45 = .ok (.ireturn, 1) := by decide +kernel
theorem dX4_init_0 : decode cX4_init 0 = .ok (.aload_n 0, 1) := by decide +kernel
theorem dX4_init_1 : decode cX4_init 1 = .ok (.invokespecial 3, 3) := by decide +kernel
theorem dX4_init_4 : decode cX4_init 4 = .ok (.aload_n 0, 1) := by decide +kernel
theorem dX4_init_5 : decode cX4_init 5 = .ok (.new 9, 3) := by decide +kernel
theorem dX4_init_8 : decode cX4_init 8 = .ok (.dup, 1) := by decide +kernel
theorem dX4_init_9 : decode cX4_init 9 = .ok (.invokespecial 11, 3) := by decide +kernel
theorem dX4_init_12 : decode cX4_init 12 = .ok (.putfield 12, 3) := by decide +kernel
theorem dX4_init_15 : decode cX4_init 15 = .ok (.aload_n 0, 1) := by decide +kernel
theorem dX4_init_16 : decode cX4_init 16 = .ok (.new 9, 3) := by decide +kernel
theorem dX4_init_19 : decode cX4_init 19 = .ok (.dup, 1) := by decide +kernel
theorem dX4_init_20 : decode cX4_init 20 = .ok (.invokespecial 11, 3) := by decide +kernel
theorem dX4_init_23 : decode cX4_init 23 = .ok (.putfield 16, 3) := by decide +kernel
theorem dX4_init_26 : decode cX4_init 26 = .ok (.aload_n 0, 1) := by decide +kernel
theorem dX4_init_27 : decode cX4_init 27 = .ok (.new 9, 3) := by decide +kernel
theorem dX4_init_30 : decode cX4_init 30 = .ok (.dup, 1) := by decide +kernel
theorem dX4_init_31 : decode cX4_init 31 = .ok (.invokespecial 11, 3) := by decide +kernel
theorem dX4_init_34 : decode cX4_init 34 = .ok (.putfield 19, 3) := by decide +kernel
theorem dX4_init_37 : decode cX4_init 37 = .ok (.aload_n 0, 1) := by decide +kernel
theorem dX4_init_38 : decode cX4_init 38 = .ok (.new 9, 3) := by decide +kernel
theorem dX4_init_41 : decode cX4_init 41 = .ok (.dup, 1) := by decide +kernel
theorem dX4_init_42 : decode cX4_init 42 = .ok (.invokespecial 11, 3) := by decide +kernel
theorem dX4_init_45 : decode cX4_init 45 = .ok (.putfield 22, 3) := by decide +kernel
theorem dX4_init_48 : decode cX4_init 48 = .ok (.aload_n 0, 1) := by decide +kernel
theorem dX4_init_49 : decode cX4_init 49 = .ok (.new 25, 3) := by decide +kernel
theorem dX4_init_52 : decode cX4_init 52 = .ok (.dup, 1) := by decide +kernel
theorem dX4_init_53 : decode cX4_init 53 = .ok (.invokespecial 27, 3) := by decide +kernel
theorem dX4_init_56 : decode cX4_init 56 = .ok (.putfield 28, 3) := by decide +kernel
theorem dX4_init_59 : decode cX4_init 59 = .ok (.aload_n 0, 1) := by decide +kernel
theorem dX4_init_60 : decode cX4_init 60 = .ok (.aload_n 0, 1) := by decide +kernel
theorem dX4_init_61 : decode cX4_init 61 = .ok (.getfield 28, 3) := by decide +kernel
theorem dX4_init_64 : decode cX4_init 64 = .ok (.getfield 32, 3) := by decide +kernel
theorem dX4_init_67 : decode cX4_init 67 = .ok (.putfield 36, 3) := by decide +kernel
theorem dX4_init_70 : decode cX4_init 70 = .ok (.aload_n 0, 1) := by decide +kernel
theorem dX4_init_71 : decode cX4_init 71 = .ok (.iconst 4, 1) := by decide +kernel
theorem dX4_init_72 : decode cX4_init 72 = .ok (.anewarray 37, 3) := by decide +kernel
theorem dX4_init_75 : decode cX4_init 75 = .ok (.putfield 39, 3) := by decide +kernel
theorem dX4_init_78 : decode cX4_init 78 = .ok (.aload_n 0, 1) := by decide +kernel
theorem dX4_init_79 : decode cX4_init 79 = .ok (.bipush 7, 2) := by decide +kernel
theorem dX4_init_81 : decode cX4_init 81 = .ok (.newarray .int, 2) := by decide +kernel
theorem dX4_init_83 : decode cX4_init 83 = .ok (.putfield 43, 3) := by decide +kernel
theorem dX4_init_86 : decode cX4_init 86 = .ok (.iconst 0, 1) := by decide +kernel
theorem dX4_init_87 : decode cX4_init 87 = .ok (.istore_n 1, 1) := by decide +kernel
theorem dX4_init_88 : decode cX4_init 88 = .ok (.iload_n 1, 1) := by decide +kernel
theorem dX4_init_89 : decode cX4_init 89 = .ok (.iconst 4, 1) := by decide +kernel
theorem dX4_init_90 : decode cX4_init 90 = .ok (.if_icmp .ge 22, 3) := by decide +kernel
theorem dX4_init_93 : decode cX4_init 93 = .ok (.aload_n 0, 1) := by decide +kernel
theorem dX4_init_94 : decode cX4_init 94 = .ok (.getfield 39, 3) := by decide +kernel
theorem dX4_init_97 : decode cX4_init 97 = .ok (.iload_n 1, 1) := by decide +kernel
theorem dX4_init_98 : decode cX4_init 98 = .ok (.new 37, 3) := by decide +kernel
theorem dX4_init_101 : decode cX4_init 101 = .ok (.dup, 1) := by decide +kernel
theorem dX4_init_102 : decode cX4_init 102 = .ok (.invokespecial 47, 3) := by decide +kernel
theorem dX4_init_105 : decode cX4_init 105 = .ok (.aastore, 1) := by decide +kernel
theorem dX4_init_106 : decode cX4_init 106 = .ok (.iinc 1 1, 3) := by decide +kernel
theorem dX4_init_109 : decode cX4_init 109 = .ok (.goto (-21), 3) := by decide +kernel
theorem dX4_init_112 : decode cX4_init 112 = .ok (.return_, 1) := by decide +kernel
theorem dX4_room_0 : decode cX4_room 0 = .ok (.iload_n 1, 1) := by decide +kernel
theorem dX4_room_1 : decode cX4_room 1 = .ok (.invokestatic 48, 3) := by decide +kernel
theorem dX4_room_4 : decode cX4_room 4 = .ok (.ifCond .ne 10, 3) := by decide +kernel
theorem dX4_room_7 : decode cX4_room 7 = .ok (.aload_n 0, 1) := by decide +kernel
theorem dX4_room_8 : decode cX4_room 8 = .ok (.ldc 52, 2) := by decide +kernel
theorem dX4_room_10 : decode cX4_room 10 = .ok (.invokevirtual 53, 3) := by decide +kernel
theorem dX4_room_13 : decode cX4_room 13 = .ok (.ireturn, 1) := by decide +kernel
theorem dX4_room_14 : decode cX4_room 14 = .ok (.aload_n 0, 1) := by decide +kernel
theorem dX4_room_15 : decode cX4_room 15 = .ok (.getfield 12, 3) := by decide +kernel
theorem dX4_room_18 : decode cX4_room 18 = .ok (.getfield 57, 3) := by decide +kernel
theorem dX4_room_21 : decode cX4_room 21 = .ok (.bipush 8, 2) := by decide +kernel
theorem dX4_room_23 : decode cX4_room 23 = .ok (.if_icmp .lt 10, 3) := by decide +kernel
theorem dX4_room_26 : decode cX4_room 26 = .ok (.aload_n 0, 1) := by decide +kernel
theorem dX4_room_27 : decode cX4_room 27 = .ok (.ldc 61, 2) := by decide +kernel
theorem dX4_room_29 : decode cX4_room 29 = .ok (.invokevirtual 53, 3) := by decide +kernel
theorem dX4_room_32 : decode cX4_room 32 = .ok (.ireturn, 1) := by decide +kernel
theorem dX4_room_33 : decode cX4_room 33 = .ok (.aload_n 0, 1) := by decide +kernel
theorem dX4_room_34 : decode cX4_room 34 = .ok (.getfield 12, 3) := by decide +kernel
theorem dX4_room_37 : decode cX4_room 37 = .ok (.iload_n 1, 1) := by decide +kernel
theorem dX4_room_38 : decode cX4_room 38 = .ok (.invokevirtual 62, 3) := by decide +kernel
theorem dX4_room_41 : decode cX4_room 41 = .ok (.ireturn, 1) := by decide +kernel
theorem dX4_of_0 : decode cX4_of 0 = .ok (.aload_n 0, 1) := by decide +kernel
theorem dX4_of_1 : decode cX4_of 1 = .ok (.getfield 12, 3) := by decide +kernel
theorem dX4_of_4 : decode cX4_of 4 = .ok (.iload_n 1, 1) := by decide +kernel
theorem dX4_of_5 : decode cX4_of 5 = .ok (.invokevirtual 65, 3) := by decide +kernel
theorem dX4_of_8 : decode cX4_of 8 = .ok (.ifCond .ne 10, 3) := by decide +kernel
theorem dX4_of_11 : decode cX4_of 11 = .ok (.aload_n 0, 1) := by decide +kernel
theorem dX4_of_12 : decode cX4_of 12 = .ok (.ldc 52, 2) := by decide +kernel
theorem dX4_of_14 : decode cX4_of 14 = .ok (.invokevirtual 53, 3) := by decide +kernel
theorem dX4_of_17 : decode cX4_of 17 = .ok (.ireturn, 1) := by decide +kernel
theorem dX4_of_18 : decode cX4_of 18 = .ok (.iload_n 2, 1) := by decide +kernel
theorem dX4_of_19 : decode cX4_of 19 = .ok (.bipush 9, 2) := by decide +kernel
theorem dX4_of_21 : decode cX4_of 21 = .ok (.if_icmp .ne 12, 3) := by decide +kernel
theorem dX4_of_24 : decode cX4_of 24 = .ok (.aload_n 0, 1) := by decide +kernel
theorem dX4_of_25 : decode cX4_of 25 = .ok (.getfield 12, 3) := by decide +kernel
theorem dX4_of_28 : decode cX4_of 28 = .ok (.iload_n 1, 1) := by decide +kernel
theorem dX4_of_29 : decode cX4_of 29 = .ok (.invokevirtual 68, 3) := by decide +kernel
theorem dX4_of_32 : decode cX4_of 32 = .ok (.ireturn, 1) := by decide +kernel
theorem dX4_of_33 : decode cX4_of 33 = .ok (.aload_n 0, 1) := by decide +kernel
theorem dX4_of_34 : decode cX4_of 34 = .ok (.getfield 12, 3) := by decide +kernel
theorem dX4_of_37 : decode cX4_of 37 = .ok (.iload_n 2, 1) := by decide +kernel
theorem dX4_of_38 : decode cX4_of 38 = .ok (.invokevirtual 71, 3) := by decide +kernel
theorem dX4_of_41 : decode cX4_of 41 = .ok (.astore_n 3, 1) := by decide +kernel
theorem dX4_of_42 : decode cX4_of 42 = .ok (.aload_n 3, 1) := by decide +kernel
theorem dX4_of_43 : decode cX4_of 43 = .ok (.ifnonnull 12, 3) := by decide +kernel
theorem dX4_of_46 : decode cX4_of 46 = .ok (.aload_n 0, 1) := by decide +kernel
theorem dX4_of_47 : decode cX4_of 47 = .ok (.ldc 52, 2) := by decide +kernel
theorem dX4_of_49 : decode cX4_of 49 = .ok (.invokevirtual 53, 3) := by decide +kernel
theorem dX4_of_52 : decode cX4_of 52 = .ok (.goto 6, 3) := by decide +kernel
theorem dX4_of_55 : decode cX4_of 55 = .ok (.aload_n 3, 1) := by decide +kernel
theorem dX4_of_56 : decode cX4_of 56 = .ok (.iload_n 1, 1) := by decide +kernel
theorem dX4_of_57 : decode cX4_of 57 = .ok (.iaload, 1) := by decide +kernel
theorem dX4_of_58 : decode cX4_of 58 = .ok (.ireturn, 1) := by decide +kernel
theorem dX4_change_0 : decode cX4_change 0 = .ok (.aload_n 0, 1) := by decide +kernel
theorem dX4_change_1 : decode cX4_change 1 = .ok (.getfield 12, 3) := by decide +kernel
theorem dX4_change_4 : decode cX4_change 4 = .ok (.iload_n 2, 1) := by decide +kernel
theorem dX4_change_5 : decode cX4_change 5 = .ok (.invokevirtual 71, 3) := by decide +kernel
theorem dX4_change_8 : decode cX4_change 8 = .ok (.astore 4, 2) := by decide +kernel
theorem dX4_change_10 : decode cX4_change 10 = .ok (.aload 4, 2) := by decide +kernel
theorem dX4_change_12 : decode cX4_change 12 = .ok (.ifnull 16, 3) := by decide +kernel
theorem dX4_change_15 : decode cX4_change 15 = .ok (.aload_n 0, 1) := by decide +kernel
theorem dX4_change_16 : decode cX4_change 16 = .ok (.getfield 12, 3) := by decide +kernel
theorem dX4_change_19 : decode cX4_change 19 = .ok (.iload_n 1, 1) := by decide +kernel
theorem dX4_change_20 : decode cX4_change 20 = .ok (.iload_n 2, 1) := by decide +kernel
theorem dX4_change_21 : decode cX4_change 21 = .ok (.iload_n 3, 1) := by decide +kernel
theorem dX4_change_22 : decode cX4_change 22 = .ok (.invokevirtual 75, 3) := by decide +kernel
theorem dX4_change_25 : decode cX4_change 25 = .ok (.ifCond .ne 10, 3) := by decide +kernel
theorem dX4_change_28 : decode cX4_change 28 = .ok (.aload_n 0, 1) := by decide +kernel
theorem dX4_change_29 : decode cX4_change 29 = .ok (.ldc 52, 2) := by decide +kernel
theorem dX4_change_31 : decode cX4_change 31 = .ok (.invokevirtual 53, 3) := by decide +kernel
theorem dX4_change_34 : decode cX4_change 34 = .ok (.ireturn, 1) := by decide +kernel
theorem dX4_change_35 : decode cX4_change 35 = .ok (.aload 4, 2) := by decide +kernel
theorem dX4_change_37 : decode cX4_change 37 = .ok (.iload_n 1, 1) := by decide +kernel
theorem dX4_change_38 : decode cX4_change 38 = .ok (.iaload, 1) := by decide +kernel
theorem dX4_change_39 : decode cX4_change 39 = .ok (.istore 5, 2) := by decide +kernel
theorem dX4_change_41 : decode cX4_change 41 = .ok (.aload 4, 2) := by decide +kernel
theorem dX4_change_43 : decode cX4_change 43 = .ok (.iload_n 1, 1) := by decide +kernel
theorem dX4_change_44 : decode cX4_change 44 = .ok (.iload_n 3, 1) := by decide +kernel
theorem dX4_change_45 : decode cX4_change 45 = .ok (.iastore, 1) := by decide +kernel
theorem dX4_change_46 : decode cX4_change 46 = .ok (.iload 5, 2) := by decide +kernel
theorem dX4_change_48 : decode cX4_change 48 = .ok (.ireturn, 1) := by decide +kernel
theorem dX4_out_0 : decode cX4_out 0 = .ok (.iload_n 1, 1) := by decide +kernel
theorem dX4_out_1 : decode cX4_out 1 = .ok (.ifCond .lt 9, 3) := by decide +kernel
theorem dX4_out_4 : decode cX4_out 4 = .ok (.iload_n 1, 1) := by decide +kernel
theorem dX4_out_5 : decode cX4_out 5 = .ok (.bipush 100, 2) := by decide +kernel
theorem dX4_out_7 : decode cX4_out 7 = .ok (.if_icmp .le 10, 3) := by decide +kernel
theorem dX4_out_10 : decode cX4_out 10 = .ok (.aload_n 0, 1) := by decide +kernel
theorem dX4_out_11 : decode cX4_out 11 = .ok (.ldc 52, 2) := by decide +kernel
theorem dX4_out_13 : decode cX4_out 13 = .ok (.invokevirtual 53, 3) := by decide +kernel
theorem dX4_out_16 : decode cX4_out 16 = .ok (.ireturn, 1) := by decide +kernel
theorem dX4_out_17 : decode cX4_out 17 = .ok (.aload_n 0, 1) := by decide +kernel
theorem dX4_out_18 : decode cX4_out 18 = .ok (.getfield 12, 3) := by decide +kernel
theorem dX4_out_21 : decode cX4_out 21 = .ok (.getfield 79, 3) := by decide +kernel
theorem dX4_out_24 : decode cX4_out 24 = .ok (.istore_n 2, 1) := by decide +kernel
theorem dX4_out_25 : decode cX4_out 25 = .ok (.aload_n 0, 1) := by decide +kernel
theorem dX4_out_26 : decode cX4_out 26 = .ok (.getfield 12, 3) := by decide +kernel
theorem dX4_out_29 : decode cX4_out 29 = .ok (.iload_n 1, 1) := by decide +kernel
theorem dX4_out_30 : decode cX4_out 30 = .ok (.putfield 79, 3) := by decide +kernel
theorem dX4_out_33 : decode cX4_out 33 = .ok (.iload_n 2, 1) := by decide +kernel
theorem dX4_out_34 : decode cX4_out 34 = .ok (.ireturn, 1) := by decide +kernel
theorem dX4_heaters_0 : decode cX4_heaters 0 = .ok (.aload_n 0, 1) := by decide +kernel
theorem dX4_heaters_1 : decode cX4_heaters 1 = .ok (.getfield 12, 3) := by decide +kernel
theorem dX4_heaters_4 : decode cX4_heaters 4 = .ok (.iload_n 1, 1) := by decide +kernel
theorem dX4_heaters_5 : decode cX4_heaters 5 = .ok (.invokevirtual 65, 3) := by decide +kernel
theorem dX4_heaters_8 : decode cX4_heaters 8 = .ok (.ifCond .eq 14, 3) := by decide +kernel
theorem dX4_heaters_11 : decode cX4_heaters 11 = .ok (.aload_n 0, 1) := by decide +kernel
theorem dX4_heaters_12 : decode cX4_heaters 12 = .ok (.getfield 12, 3) := by decide +kernel
theorem dX4_heaters_15 : decode cX4_heaters 15 = .ok (.iload_n 1, 1) := by decide +kernel
theorem dX4_heaters_16 : decode cX4_heaters 16 = .ok (.invokevirtual 82, 3) := by decide +kernel
theorem dX4_heaters_19 : decode cX4_heaters 19 = .ok (.goto 9, 3) := by decide +kernel
theorem dX4_heaters_22 : decode cX4_heaters 22 = .ok (.aload_n 0, 1) := by decide +kernel
theorem dX4_heaters_23 : decode cX4_heaters 23 = .ok (.ldc 52, 2) := by decide +kernel
theorem dX4_heaters_25 : decode cX4_heaters 25 = .ok (.invokevirtual 53, 3) := by decide +kernel
theorem dX4_heaters_28 : decode cX4_heaters 28 = .ok (.ireturn, 1) := by decide +kernel
theorem dX4_reach_0 : decode cX4_reach 0 = .ok (.aload_n 0, 1) := by decide +kernel
theorem dX4_reach_1 : decode cX4_reach 1 = .ok (.getfield 12, 3) := by decide +kernel
theorem dX4_reach_4 : decode cX4_reach 4 = .ok (.iload_n 1, 1) := by decide +kernel
theorem dX4_reach_5 : decode cX4_reach 5 = .ok (.invokevirtual 65, 3) := by decide +kernel
theorem dX4_reach_8 : decode cX4_reach 8 = .ok (.ifCond .eq 14, 3) := by decide +kernel
theorem dX4_reach_11 : decode cX4_reach 11 = .ok (.aload_n 0, 1) := by decide +kernel
theorem dX4_reach_12 : decode cX4_reach 12 = .ok (.getfield 12, 3) := by decide +kernel
theorem dX4_reach_15 : decode cX4_reach 15 = .ok (.iload_n 1, 1) := by decide +kernel
theorem dX4_reach_16 : decode cX4_reach 16 = .ok (.invokevirtual 85, 3) := by decide +kernel
theorem dX4_reach_19 : decode cX4_reach 19 = .ok (.goto 9, 3) := by decide +kernel
theorem dX4_reach_22 : decode cX4_reach 22 = .ok (.aload_n 0, 1) := by decide +kernel
theorem dX4_reach_23 : decode cX4_reach 23 = .ok (.ldc 52, 2) := by decide +kernel
theorem dX4_reach_25 : decode cX4_reach 25 = .ok (.invokevirtual 53, 3) := by decide +kernel
theorem dX4_reach_28 : decode cX4_reach 28 = .ok (.ireturn, 1) := by decide +kernel
theorem dX4_move_0 : decode cX4_move 0 = .ok (.aload_n 0, 1) := by decide +kernel
theorem dX4_move_1 : decode cX4_move 1 = .ok (.getfield 12, 3) := by decide +kernel
theorem dX4_move_4 : decode cX4_move 4 = .ok (.iload_n 1, 1) := by decide +kernel
theorem dX4_move_5 : decode cX4_move 5 = .ok (.invokevirtual 65, 3) := by decide +kernel
theorem dX4_move_8 : decode cX4_move 8 = .ok (.ifCond .eq 14, 3) := by decide +kernel
theorem dX4_move_11 : decode cX4_move 11 = .ok (.aload_n 0, 1) := by decide +kernel
theorem dX4_move_12 : decode cX4_move 12 = .ok (.getfield 12, 3) := by decide +kernel
theorem dX4_move_15 : decode cX4_move 15 = .ok (.iload_n 2, 1) := by decide +kernel
theorem dX4_move_16 : decode cX4_move 16 = .ok (.invokevirtual 65, 3) := by decide +kernel
theorem dX4_move_19 : decode cX4_move 19 = .ok (.ifCond .ne 10, 3) := by decide +kernel
theorem dX4_move_22 : decode cX4_move 22 = .ok (.aload_n 0, 1) := by decide +kernel
theorem dX4_move_23 : decode cX4_move 23 = .ok (.ldc 52, 2) := by decide +kernel
theorem dX4_move_25 : decode cX4_move 25 = .ok (.invokevirtual 53, 3) := by decide +kernel
theorem dX4_move_28 : decode cX4_move 28 = .ok (.ireturn, 1) := by decide +kernel
theorem dX4_move_29 : decode cX4_move 29 = .ok (.aload_n 0, 1) := by decide +kernel
theorem dX4_move_30 : decode cX4_move 30 = .ok (.getfield 12, 3) := by decide +kernel
theorem dX4_move_33 : decode cX4_move 33 = .ok (.iload_n 1, 1) := by decide +kernel
theorem dX4_move_34 : decode cX4_move 34 = .ok (.iload_n 2, 1) := by decide +kernel
theorem dX4_move_35 : decode cX4_move 35 = .ok (.invokevirtual 88, 3) := by decide +kernel
theorem dX4_move_38 : decode cX4_move 38 = .ok (.iconst 1, 1) := by decide +kernel
theorem dX4_move_39 : decode cX4_move 39 = .ok (.ireturn, 1) := by decide +kernel
theorem dX4_hours_0 : decode cX4_hours 0 = .ok (.aload_n 0, 1) := by decide +kernel
theorem dX4_hours_1 : decode cX4_hours 1 = .ok (.iload_n 1, 1) := by decide +kernel
theorem dX4_hours_2 : decode cX4_hours 2 = .ok (.bipush 100, 2) := by decide +kernel
theorem dX4_hours_4 : decode cX4_hours 4 = .ok (.invokevirtual 92, 3) := by decide +kernel
theorem dX4_hours_7 : decode cX4_hours 7 = .ok (.istore_n 2, 1) := by decide +kernel
theorem dX4_hours_8 : decode cX4_hours 8 = .ok (.iload_n 2, 1) := by decide +kernel
theorem dX4_hours_9 : decode cX4_hours 9 = .ok (.ifCond .ne 14, 3) := by decide +kernel
theorem dX4_hours_12 : decode cX4_hours 12 = .ok (.aload_n 0, 1) := by decide +kernel
theorem dX4_hours_13 : decode cX4_hours 13 = .ok (.getfield 12, 3) := by decide +kernel
theorem dX4_hours_16 : decode cX4_hours 16 = .ok (.iload_n 1, 1) := by decide +kernel
theorem dX4_hours_17 : decode cX4_hours 17 = .ok (.invokevirtual 96, 3) := by decide +kernel
theorem dX4_hours_20 : decode cX4_hours 20 = .ok (.goto 8, 3) := by decide +kernel
theorem dX4_hours_23 : decode cX4_hours 23 = .ok (.aload_n 0, 1) := by decide +kernel
theorem dX4_hours_24 : decode cX4_hours 24 = .ok (.iload_n 2, 1) := by decide +kernel
theorem dX4_hours_25 : decode cX4_hours 25 = .ok (.invokevirtual 53, 3) := by decide +kernel
theorem dX4_hours_28 : decode cX4_hours 28 = .ok (.ireturn, 1) := by decide +kernel
theorem dX4_now_0 : decode cX4_now 0 = .ok (.iload_n 1, 1) := by decide +kernel
theorem dX4_now_1 : decode cX4_now 1 = .ok (.tableswitch 101 0 5 #[39, 47, 55, 70, 85, 93], 39) := by decide +kernel
theorem dX4_now_40 : decode cX4_now 40 = .ok (.aload_n 0, 1) := by decide +kernel
theorem dX4_now_41 : decode cX4_now 41 = .ok (.getfield 12, 3) := by decide +kernel
theorem dX4_now_44 : decode cX4_now 44 = .ok (.getfield 99, 3) := by decide +kernel
theorem dX4_now_47 : decode cX4_now 47 = .ok (.ireturn, 1) := by decide +kernel
theorem dX4_now_48 : decode cX4_now 48 = .ok (.aload_n 0, 1) := by decide +kernel
theorem dX4_now_49 : decode cX4_now 49 = .ok (.getfield 12, 3) := by decide +kernel
theorem dX4_now_52 : decode cX4_now 52 = .ok (.invokevirtual 102, 3) := by decide +kernel
theorem dX4_now_55 : decode cX4_now 55 = .ok (.ireturn, 1) := by decide +kernel
theorem dX4_now_56 : decode cX4_now 56 = .ok (.aload_n 0, 1) := by decide +kernel
theorem dX4_now_57 : decode cX4_now 57 = .ok (.getfield 12, 3) := by decide +kernel
theorem dX4_now_60 : decode cX4_now 60 = .ok (.aload_n 0, 1) := by decide +kernel
theorem dX4_now_61 : decode cX4_now 61 = .ok (.getfield 12, 3) := by decide +kernel
theorem dX4_now_64 : decode cX4_now 64 = .ok (.getfield 106, 3) := by decide +kernel
theorem dX4_now_67 : decode cX4_now 67 = .ok (.invokevirtual 109, 3) := by decide +kernel
theorem dX4_now_70 : decode cX4_now 70 = .ok (.ireturn, 1) := by decide +kernel
theorem dX4_now_71 : decode cX4_now 71 = .ok (.aload_n 0, 1) := by decide +kernel
theorem dX4_now_72 : decode cX4_now 72 = .ok (.getfield 12, 3) := by decide +kernel
theorem dX4_now_75 : decode cX4_now 75 = .ok (.aload_n 0, 1) := by decide +kernel
theorem dX4_now_76 : decode cX4_now 76 = .ok (.getfield 12, 3) := by decide +kernel
theorem dX4_now_79 : decode cX4_now 79 = .ok (.getfield 113, 3) := by decide +kernel
theorem dX4_now_82 : decode cX4_now 82 = .ok (.invokevirtual 109, 3) := by decide +kernel
theorem dX4_now_85 : decode cX4_now 85 = .ok (.ireturn, 1) := by decide +kernel
theorem dX4_now_86 : decode cX4_now 86 = .ok (.aload_n 0, 1) := by decide +kernel
theorem dX4_now_87 : decode cX4_now 87 = .ok (.getfield 12, 3) := by decide +kernel
theorem dX4_now_90 : decode cX4_now 90 = .ok (.getfield 79, 3) := by decide +kernel
theorem dX4_now_93 : decode cX4_now 93 = .ok (.ireturn, 1) := by decide +kernel
theorem dX4_now_94 : decode cX4_now 94 = .ok (.aload_n 0, 1) := by decide +kernel
theorem dX4_now_95 : decode cX4_now 95 = .ok (.getfield 12, 3) := by decide +kernel
theorem dX4_now_98 : decode cX4_now 98 = .ok (.invokevirtual 116, 3) := by decide +kernel
theorem dX4_now_101 : decode cX4_now 101 = .ok (.ireturn, 1) := by decide +kernel
theorem dX4_now_102 : decode cX4_now 102 = .ok (.aload_n 0, 1) := by decide +kernel
theorem dX4_now_103 : decode cX4_now 103 = .ok (.ldc 52, 2) := by decide +kernel
theorem dX4_now_105 : decode cX4_now 105 = .ok (.invokevirtual 53, 3) := by decide +kernel
theorem dX4_now_108 : decode cX4_now 108 = .ok (.ireturn, 1) := by decide +kernel
theorem dX4_ahead_0 : decode cX4_ahead 0 = .ok (.iload_n 1, 1) := by decide +kernel
theorem dX4_ahead_1 : decode cX4_ahead 1 = .ok (.ifCond .lt 31, 3) := by decide +kernel
theorem dX4_ahead_4 : decode cX4_ahead 4 = .ok (.iload_n 1, 1) := by decide +kernel
theorem dX4_ahead_5 : decode cX4_ahead 5 = .ok (.bipush 100, 2) := by decide +kernel
theorem dX4_ahead_7 : decode cX4_ahead 7 = .ok (.if_icmp .gt 25, 3) := by decide +kernel
theorem dX4_ahead_10 : decode cX4_ahead 10 = .ok (.iload_n 2, 1) := by decide +kernel
theorem dX4_ahead_11 : decode cX4_ahead 11 = .ok (.ifCond .lt 21, 3) := by decide +kernel
theorem dX4_ahead_14 : decode cX4_ahead 14 = .ok (.iload_n 2, 1) := by decide +kernel
theorem dX4_ahead_15 : decode cX4_ahead 15 = .ok (.iconst 3, 1) := by decide +kernel
theorem dX4_ahead_16 : decode cX4_ahead 16 = .ok (.if_icmp .le 23, 3) := by decide +kernel
theorem dX4_ahead_19 : decode cX4_ahead 19 = .ok (.aload_n 0, 1) := by decide +kernel
theorem dX4_ahead_20 : decode cX4_ahead 20 = .ok (.getfield 12, 3) := by decide +kernel
theorem dX4_ahead_23 : decode cX4_ahead 23 = .ok (.iload_n 2, 1) := by decide +kernel
theorem dX4_ahead_24 : decode cX4_ahead 24 = .ok (.iconst 4, 1) := by decide +kernel
theorem dX4_ahead_25 : decode cX4_ahead 25 = .ok (.isub, 1) := by decide +kernel
theorem dX4_ahead_26 : decode cX4_ahead 26 = .ok (.invokevirtual 65, 3) := by decide +kernel
theorem dX4_ahead_29 : decode cX4_ahead 29 = .ok (.ifCond .ne 10, 3) := by decide +kernel
theorem dX4_ahead_32 : decode cX4_ahead 32 = .ok (.aload_n 0, 1) := by decide +kernel
theorem dX4_ahead_33 : decode cX4_ahead 33 = .ok (.ldc 52, 2) := by decide +kernel
theorem dX4_ahead_35 : decode cX4_ahead 35 = .ok (.invokevirtual 53, 3) := by decide +kernel
theorem dX4_ahead_38 : decode cX4_ahead 38 = .ok (.ireturn, 1) := by decide +kernel
theorem dX4_ahead_39 : decode cX4_ahead 39 = .ok (.aload_n 0, 1) := by decide +kernel
theorem dX4_ahead_40 : decode cX4_ahead 40 = .ok (.getfield 12, 3) := by decide +kernel
theorem dX4_ahead_43 : decode cX4_ahead 43 = .ok (.getfield 99, 3) := by decide +kernel
theorem dX4_ahead_46 : decode cX4_ahead 46 = .ok (.iload_n 1, 1) := by decide +kernel
theorem dX4_ahead_47 : decode cX4_ahead 47 = .ok (.iadd, 1) := by decide +kernel
theorem dX4_ahead_48 : decode cX4_ahead 48 = .ok (.sipush 9999, 3) := by decide +kernel
theorem dX4_ahead_51 : decode cX4_ahead 51 = .ok (.if_icmp .le 10, 3) := by decide +kernel
theorem dX4_ahead_54 : decode cX4_ahead 54 = .ok (.aload_n 0, 1) := by decide +kernel
theorem dX4_ahead_55 : decode cX4_ahead 55 = .ok (.ldc 119, 2) := by decide +kernel
theorem dX4_ahead_57 : decode cX4_ahead 57 = .ok (.invokevirtual 53, 3) := by decide +kernel
theorem dX4_ahead_60 : decode cX4_ahead 60 = .ok (.ireturn, 1) := by decide +kernel
theorem dX4_ahead_61 : decode cX4_ahead 61 = .ok (.aload_n 0, 1) := by decide +kernel
theorem dX4_ahead_62 : decode cX4_ahead 62 = .ok (.invokevirtual 120, 3) := by decide +kernel
theorem dX4_ahead_65 : decode cX4_ahead 65 = .ok (.aload_n 0, 1) := by decide +kernel
theorem dX4_ahead_66 : decode cX4_ahead 66 = .ok (.getfield 16, 3) := by decide +kernel
theorem dX4_ahead_69 : decode cX4_ahead 69 = .ok (.iload_n 1, 1) := by decide +kernel
theorem dX4_ahead_70 : decode cX4_ahead 70 = .ok (.invokevirtual 96, 3) := by decide +kernel
theorem dX4_ahead_73 : decode cX4_ahead 73 = .ok (.istore_n 3, 1) := by decide +kernel
theorem dX4_ahead_74 : decode cX4_ahead 74 = .ok (.iload_n 2, 1) := by decide +kernel
theorem dX4_ahead_75 : decode cX4_ahead 75 = .ok (.tableswitch 62 0 3 #[29, 31, 39, 54], 29) := by decide +kernel
theorem dX4_ahead_104 : decode cX4_ahead 104 = .ok (.iload_n 3, 1) := by decide +kernel
theorem dX4_ahead_105 : decode cX4_ahead 105 = .ok (.ireturn, 1) := by decide +kernel
theorem dX4_ahead_106 : decode cX4_ahead 106 = .ok (.aload_n 0, 1) := by decide +kernel
theorem dX4_ahead_107 : decode cX4_ahead 107 = .ok (.getfield 16, 3) := by decide +kernel
theorem dX4_ahead_110 : decode cX4_ahead 110 = .ok (.invokevirtual 102, 3) := by decide +kernel
theorem dX4_ahead_113 : decode cX4_ahead 113 = .ok (.ireturn, 1) := by decide +kernel
theorem dX4_ahead_114 : decode cX4_ahead 114 = .ok (.aload_n 0, 1) := by decide +kernel
theorem dX4_ahead_115 : decode cX4_ahead 115 = .ok (.getfield 16, 3) := by decide +kernel
theorem dX4_ahead_118 : decode cX4_ahead 118 = .ok (.aload_n 0, 1) := by decide +kernel
theorem dX4_ahead_119 : decode cX4_ahead 119 = .ok (.getfield 16, 3) := by decide +kernel
theorem dX4_ahead_122 : decode cX4_ahead 122 = .ok (.getfield 113, 3) := by decide +kernel
theorem dX4_ahead_125 : decode cX4_ahead 125 = .ok (.invokevirtual 109, 3) := by decide +kernel
theorem dX4_ahead_128 : decode cX4_ahead 128 = .ok (.ireturn, 1) := by decide +kernel
theorem dX4_ahead_129 : decode cX4_ahead 129 = .ok (.aload_n 0, 1) := by decide +kernel
theorem dX4_ahead_130 : decode cX4_ahead 130 = .ok (.getfield 16, 3) := by decide +kernel
theorem dX4_ahead_133 : decode cX4_ahead 133 = .ok (.invokevirtual 123, 3) := by decide +kernel
theorem dX4_ahead_136 : decode cX4_ahead 136 = .ok (.ireturn, 1) := by decide +kernel
theorem dX4_ahead_137 : decode cX4_ahead 137 = .ok (.aload_n 0, 1) := by decide +kernel
theorem dX4_ahead_138 : decode cX4_ahead 138 = .ok (.getfield 16, 3) := by decide +kernel
theorem dX4_ahead_141 : decode cX4_ahead 141 = .ok (.getfield 113, 3) := by decide +kernel
theorem dX4_ahead_144 : decode cX4_ahead 144 = .ok (.iload_n 2, 1) := by decide +kernel
theorem dX4_ahead_145 : decode cX4_ahead 145 = .ok (.iconst 4, 1) := by decide +kernel
theorem dX4_ahead_146 : decode cX4_ahead 146 = .ok (.isub, 1) := by decide +kernel
theorem dX4_ahead_147 : decode cX4_ahead 147 = .ok (.iaload, 1) := by decide +kernel
theorem dX4_ahead_148 : decode cX4_ahead 148 = .ok (.ireturn, 1) := by decide +kernel
theorem dX4_cold_0 : decode cX4_cold 0 = .ok (.aload_n 0, 1) := by decide +kernel
theorem dX4_cold_1 : decode cX4_cold 1 = .ok (.iload_n 1, 1) := by decide +kernel
theorem dX4_cold_2 : decode cX4_cold 2 = .ok (.iconst 1, 1) := by decide +kernel
theorem dX4_cold_3 : decode cX4_cold 3 = .ok (.bipush 60, 2) := by decide +kernel
theorem dX4_cold_5 : decode cX4_cold 5 = .ok (.invokevirtual 126, 3) := by decide +kernel
theorem dX4_cold_8 : decode cX4_cold 8 = .ok (.ireturn, 1) := by decide +kernel
theorem dX4_spent_0 : decode cX4_spent 0 = .ok (.aload_n 0, 1) := by decide +kernel
theorem dX4_spent_1 : decode cX4_spent 1 = .ok (.iload_n 1, 1) := by decide +kernel
theorem dX4_spent_2 : decode cX4_spent 2 = .ok (.iconst 2, 1) := by decide +kernel
theorem dX4_spent_3 : decode cX4_spent 3 = .ok (.iconst 1, 1) := by decide +kernel
theorem dX4_spent_4 : decode cX4_spent 4 = .ok (.invokevirtual 126, 3) := by decide +kernel
theorem dX4_spent_7 : decode cX4_spent 7 = .ok (.ireturn, 1) := by decide +kernel
theorem dX4_firstBelow_0 : decode cX4_firstBelow 0 = .ok (.aload_n 0, 1) := by decide +kernel
theorem dX4_firstBelow_1 : decode cX4_firstBelow 1 = .ok (.getfield 12, 3) := by decide +kernel
theorem dX4_firstBelow_4 : decode cX4_firstBelow 4 = .ok (.iload_n 1, 1) := by decide +kernel
theorem dX4_firstBelow_5 : decode cX4_firstBelow 5 = .ok (.invokevirtual 65, 3) := by decide +kernel
theorem dX4_firstBelow_8 : decode cX4_firstBelow 8 = .ok (.ifCond .ne 10, 3) := by decide +kernel
theorem dX4_firstBelow_11 : decode cX4_firstBelow 11 = .ok (.aload_n 0, 1) := by decide +kernel
theorem dX4_firstBelow_12 : decode cX4_firstBelow 12 = .ok (.ldc 52, 2) := by decide +kernel
theorem dX4_firstBelow_14 : decode cX4_firstBelow 14 = .ok (.invokevirtual 53, 3) := by decide +kernel
theorem dX4_firstBelow_17 : decode cX4_firstBelow 17 = .ok (.ireturn, 1) := by decide +kernel
theorem dX4_firstBelow_18 : decode cX4_firstBelow 18 = .ok (.aload_n 0, 1) := by decide +kernel
theorem dX4_firstBelow_19 : decode cX4_firstBelow 19 = .ok (.invokevirtual 130, 3) := by decide +kernel
theorem dX4_firstBelow_22 : decode cX4_firstBelow 22 = .ok (.ifCond .eq 10, 3) := by decide +kernel
theorem dX4_firstBelow_25 : decode cX4_firstBelow 25 = .ok (.aload_n 0, 1) := by decide +kernel
theorem dX4_firstBelow_26 : decode cX4_firstBelow 26 = .ok (.ldc 119, 2) := by decide +kernel
theorem dX4_firstBelow_28 : decode cX4_firstBelow 28 = .ok (.invokevirtual 53, 3) := by decide +kernel
theorem dX4_firstBelow_31 : decode cX4_firstBelow 31 = .ok (.ireturn, 1) := by decide +kernel
theorem dX4_firstBelow_32 : decode cX4_firstBelow 32 = .ok (.aload_n 0, 1) := by decide +kernel
theorem dX4_firstBelow_33 : decode cX4_firstBelow 33 = .ok (.invokevirtual 120, 3) := by decide +kernel
theorem dX4_firstBelow_36 : decode cX4_firstBelow 36 = .ok (.iload_n 2, 1) := by decide +kernel
theorem dX4_firstBelow_37 : decode cX4_firstBelow 37 = .ok (.iconst 1, 1) := by decide +kernel
theorem dX4_firstBelow_38 : decode cX4_firstBelow 38 = .ok (.if_icmp .ne 13, 3) := by decide +kernel
theorem dX4_firstBelow_41 : decode cX4_firstBelow 41 = .ok (.aload_n 0, 1) := by decide +kernel
theorem dX4_firstBelow_42 : decode cX4_firstBelow 42 = .ok (.getfield 16, 3) := by decide +kernel
theorem dX4_firstBelow_45 : decode cX4_firstBelow 45 = .ok (.getfield 113, 3) := by decide +kernel
theorem dX4_firstBelow_48 : decode cX4_firstBelow 48 = .ok (.goto 10, 3) := by decide +kernel
theorem dX4_firstBelow_51 : decode cX4_firstBelow 51 = .ok (.aload_n 0, 1) := by decide +kernel
theorem dX4_firstBelow_52 : decode cX4_firstBelow 52 = .ok (.getfield 16, 3) := by decide +kernel
theorem dX4_firstBelow_55 : decode cX4_firstBelow 55 = .ok (.getfield 106, 3) := by decide +kernel
theorem dX4_firstBelow_58 : decode cX4_firstBelow 58 = .ok (.astore 4, 2) := by decide +kernel
theorem dX4_firstBelow_60 : decode cX4_firstBelow 60 = .ok (.iconst 0, 1) := by decide +kernel
theorem dX4_firstBelow_61 : decode cX4_firstBelow 61 = .ok (.istore 5, 2) := by decide +kernel
theorem dX4_firstBelow_63 : decode cX4_firstBelow 63 = .ok (.iload 5, 2) := by decide +kernel
theorem dX4_firstBelow_65 : decode cX4_firstBelow 65 = .ok (.bipush 100, 2) := by decide +kernel
theorem dX4_firstBelow_67 : decode cX4_firstBelow 67 = .ok (.if_icmp .gt 28, 3) := by decide +kernel
theorem dX4_firstBelow_70 : decode cX4_firstBelow 70 = .ok (.aload 4, 2) := by decide +kernel
theorem dX4_firstBelow_72 : decode cX4_firstBelow 72 = .ok (.iload_n 1, 1) := by decide +kernel
theorem dX4_firstBelow_73 : decode cX4_firstBelow 73 = .ok (.iaload, 1) := by decide +kernel
theorem dX4_firstBelow_74 : decode cX4_firstBelow 74 = .ok (.iload_n 3, 1) := by decide +kernel
theorem dX4_firstBelow_75 : decode cX4_firstBelow 75 = .ok (.if_icmp .ge 6, 3) := by decide +kernel
theorem dX4_firstBelow_78 : decode cX4_firstBelow 78 = .ok (.iload 5, 2) := by decide +kernel
theorem dX4_firstBelow_80 : decode cX4_firstBelow 80 = .ok (.ireturn, 1) := by decide +kernel
theorem dX4_firstBelow_81 : decode cX4_firstBelow 81 = .ok (.aload_n 0, 1) := by decide +kernel
theorem dX4_firstBelow_82 : decode cX4_firstBelow 82 = .ok (.getfield 16, 3) := by decide +kernel
theorem dX4_firstBelow_85 : decode cX4_firstBelow 85 = .ok (.invokevirtual 134, 3) := by decide +kernel
theorem dX4_firstBelow_88 : decode cX4_firstBelow 88 = .ok (.pop, 1) := by decide +kernel
theorem dX4_firstBelow_89 : decode cX4_firstBelow 89 = .ok (.iinc 5 1, 3) := by decide +kernel
theorem dX4_firstBelow_92 : decode cX4_firstBelow 92 = .ok (.goto (-29), 3) := by decide +kernel
theorem dX4_firstBelow_95 : decode cX4_firstBelow 95 = .ok (.aload_n 0, 1) := by decide +kernel
theorem dX4_firstBelow_96 : decode cX4_firstBelow 96 = .ok (.ldc 137, 2) := by decide +kernel
theorem dX4_firstBelow_98 : decode cX4_firstBelow 98 = .ok (.invokevirtual 53, 3) := by decide +kernel
theorem dX4_firstBelow_101 : decode cX4_firstBelow 101 = .ok (.ireturn, 1) := by decide +kernel
theorem dX4_rest_0 : decode cX4_rest 0 = .ok (.aload_n 0, 1) := by decide +kernel
theorem dX4_rest_1 : decode cX4_rest 1 = .ok (.invokevirtual 130, 3) := by decide +kernel
theorem dX4_rest_4 : decode cX4_rest 4 = .ok (.ifCond .eq 10, 3) := by decide +kernel
theorem dX4_rest_7 : decode cX4_rest 7 = .ok (.aload_n 0, 1) := by decide +kernel
theorem dX4_rest_8 : decode cX4_rest 8 = .ok (.ldc 119, 2) := by decide +kernel
theorem dX4_rest_10 : decode cX4_rest 10 = .ok (.invokevirtual 53, 3) := by decide +kernel
theorem dX4_rest_13 : decode cX4_rest 13 = .ok (.ireturn, 1) := by decide +kernel
theorem dX4_rest_14 : decode cX4_rest 14 = .ok (.aload_n 0, 1) := by decide +kernel
theorem dX4_rest_15 : decode cX4_rest 15 = .ok (.invokevirtual 120, 3) := by decide +kernel
theorem dX4_rest_18 : decode cX4_rest 18 = .ok (.iconst 1, 1) := by decide +kernel
theorem dX4_rest_19 : decode cX4_rest 19 = .ok (.istore_n 1, 1) := by decide +kernel
theorem dX4_rest_20 : decode cX4_rest 20 = .ok (.iload_n 1, 1) := by decide +kernel
theorem dX4_rest_21 : decode cX4_rest 21 = .ok (.bipush 60, 2) := by decide +kernel
theorem dX4_rest_23 : decode cX4_rest 23 = .ok (.if_icmp .gt 29, 3) := by decide +kernel
theorem dX4_rest_26 : decode cX4_rest 26 = .ok (.aload_n 0, 1) := by decide +kernel
theorem dX4_rest_27 : decode cX4_rest 27 = .ok (.getfield 16, 3) := by decide +kernel
theorem dX4_rest_30 : decode cX4_rest 30 = .ok (.invokevirtual 138, 3) := by decide +kernel
theorem dX4_rest_33 : decode cX4_rest 33 = .ok (.ifCond .eq 5, 3) := by decide +kernel
theorem dX4_rest_36 : decode cX4_rest 36 = .ok (.iload_n 1, 1) := by decide +kernel
theorem dX4_rest_37 : decode cX4_rest 37 = .ok (.ireturn, 1) := by decide +kernel
theorem dX4_rest_38 : decode cX4_rest 38 = .ok (.aload_n 0, 1) := by decide +kernel
theorem dX4_rest_39 : decode cX4_rest 39 = .ok (.getfield 16, 3) := by decide +kernel
theorem dX4_rest_42 : decode cX4_rest 42 = .ok (.invokevirtual 134, 3) := by decide +kernel
theorem dX4_rest_45 : decode cX4_rest 45 = .ok (.pop, 1) := by decide +kernel
theorem dX4_rest_46 : decode cX4_rest 46 = .ok (.iinc 1 1, 3) := by decide +kernel
theorem dX4_rest_49 : decode cX4_rest 49 = .ok (.goto (-29), 3) := by decide +kernel
theorem dX4_rest_52 : decode cX4_rest 52 = .ok (.aload_n 0, 1) := by decide +kernel
theorem dX4_rest_53 : decode cX4_rest 53 = .ok (.ldc 137, 2) := by decide +kernel
theorem dX4_rest_55 : decode cX4_rest 55 = .ok (.invokevirtual 53, 3) := by decide +kernel
theorem dX4_rest_58 : decode cX4_rest 58 = .ok (.ireturn, 1) := by decide +kernel
theorem dX4_circle_0 : decode cX4_circle 0 = .ok (.aload_n 0, 1) := by decide +kernel
theorem dX4_circle_1 : decode cX4_circle 1 = .ok (.invokevirtual 130, 3) := by decide +kernel
theorem dX4_circle_4 : decode cX4_circle 4 = .ok (.ifCond .eq 10, 3) := by decide +kernel
theorem dX4_circle_7 : decode cX4_circle 7 = .ok (.aload_n 0, 1) := by decide +kernel
theorem dX4_circle_8 : decode cX4_circle 8 = .ok (.ldc 119, 2) := by decide +kernel
theorem dX4_circle_10 : decode cX4_circle 10 = .ok (.invokevirtual 53, 3) := by decide +kernel
theorem dX4_circle_13 : decode cX4_circle 13 = .ok (.ireturn, 1) := by decide +kernel
theorem dX4_circle_14 : decode cX4_circle 14 = .ok (.aload_n 0, 1) := by decide +kernel
theorem dX4_circle_15 : decode cX4_circle 15 = .ok (.bipush 24, 2) := by decide +kernel
theorem dX4_circle_17 : decode cX4_circle 17 = .ok (.invokevirtual 141, 3) := by decide +kernel
theorem dX4_circle_20 : decode cX4_circle 20 = .ok (.aload_n 0, 1) := by decide +kernel
theorem dX4_circle_21 : decode cX4_circle 21 = .ok (.getfield 16, 3) := by decide +kernel
theorem dX4_circle_24 : decode cX4_circle 24 = .ok (.aload_n 0, 1) := by decide +kernel
theorem dX4_circle_25 : decode cX4_circle 25 = .ok (.getfield 19, 3) := by decide +kernel
theorem dX4_circle_28 : decode cX4_circle 28 = .ok (.invokevirtual 145, 3) := by decide +kernel
theorem dX4_circle_31 : decode cX4_circle 31 = .ok (.iconst 1, 1) := by decide +kernel
theorem dX4_circle_32 : decode cX4_circle 32 = .ok (.istore_n 1, 1) := by decide +kernel
theorem dX4_circle_33 : decode cX4_circle 33 = .ok (.iload_n 1, 1) := by decide +kernel
theorem dX4_circle_34 : decode cX4_circle 34 = .ok (.bipush 12, 2) := by decide +kernel
theorem dX4_circle_36 : decode cX4_circle 36 = .ok (.if_icmp .gt 33, 3) := by decide +kernel
theorem dX4_circle_39 : decode cX4_circle 39 = .ok (.aload_n 0, 1) := by decide +kernel
theorem dX4_circle_40 : decode cX4_circle 40 = .ok (.getfield 16, 3) := by decide +kernel
theorem dX4_circle_43 : decode cX4_circle 43 = .ok (.invokevirtual 134, 3) := by decide +kernel
theorem dX4_circle_46 : decode cX4_circle 46 = .ok (.pop, 1) := by decide +kernel
theorem dX4_circle_47 : decode cX4_circle 47 = .ok (.aload_n 0, 1) := by decide +kernel
theorem dX4_circle_48 : decode cX4_circle 48 = .ok (.getfield 16, 3) := by decide +kernel
theorem dX4_circle_51 : decode cX4_circle 51 = .ok (.aload_n 0, 1) := by decide +kernel
theorem dX4_circle_52 : decode cX4_circle 52 = .ok (.getfield 19, 3) := by decide +kernel
theorem dX4_circle_55 : decode cX4_circle 55 = .ok (.invokevirtual 149, 3) := by decide +kernel
theorem dX4_circle_58 : decode cX4_circle 58 = .ok (.ifCond .eq 5, 3) := by decide +kernel
theorem dX4_circle_61 : decode cX4_circle 61 = .ok (.iload_n 1, 1) := by decide +kernel
theorem dX4_circle_62 : decode cX4_circle 62 = .ok (.ireturn, 1) := by decide +kernel
theorem dX4_circle_63 : decode cX4_circle 63 = .ok (.iinc 1 1, 3) := by decide +kernel
theorem dX4_circle_66 : decode cX4_circle 66 = .ok (.goto (-33), 3) := by decide +kernel
theorem dX4_circle_69 : decode cX4_circle 69 = .ok (.aload_n 0, 1) := by decide +kernel
theorem dX4_circle_70 : decode cX4_circle 70 = .ok (.ldc 137, 2) := by decide +kernel
theorem dX4_circle_72 : decode cX4_circle 72 = .ok (.invokevirtual 53, 3) := by decide +kernel
theorem dX4_circle_75 : decode cX4_circle 75 = .ok (.ireturn, 1) := by decide +kernel
theorem dX4_spread_0 : decode cX4_spread 0 = .ok (.aload_n 0, 1) := by decide +kernel
theorem dX4_spread_1 : decode cX4_spread 1 = .ok (.iload_n 1, 1) := by decide +kernel
theorem dX4_spread_2 : decode cX4_spread 2 = .ok (.iload_n 2, 1) := by decide +kernel
theorem dX4_spread_3 : decode cX4_spread 3 = .ok (.invokevirtual 153, 3) := by decide +kernel
theorem dX4_spread_6 : decode cX4_spread 6 = .ok (.istore_n 3, 1) := by decide +kernel
theorem dX4_spread_7 : decode cX4_spread 7 = .ok (.iload_n 3, 1) := by decide +kernel
theorem dX4_spread_8 : decode cX4_spread 8 = .ok (.ifCond .eq 9, 3) := by decide +kernel
theorem dX4_spread_11 : decode cX4_spread 11 = .ok (.aload_n 0, 1) := by decide +kernel
theorem dX4_spread_12 : decode cX4_spread 12 = .ok (.iload_n 3, 1) := by decide +kernel
theorem dX4_spread_13 : decode cX4_spread 13 = .ok (.invokevirtual 53, 3) := by decide +kernel
theorem dX4_spread_16 : decode cX4_spread 16 = .ok (.ireturn, 1) := by decide +kernel
theorem dX4_spread_17 : decode cX4_spread 17 = .ok (.aload_n 0, 1) := by decide +kernel
theorem dX4_spread_18 : decode cX4_spread 18 = .ok (.iload_n 2, 1) := by decide +kernel
theorem dX4_spread_19 : decode cX4_spread 19 = .ok (.invokevirtual 141, 3) := by decide +kernel
theorem dX4_spread_22 : decode cX4_spread 22 = .ok (.aload_n 0, 1) := by decide +kernel
theorem dX4_spread_23 : decode cX4_spread 23 = .ok (.iload_n 1, 1) := by decide +kernel
theorem dX4_spread_24 : decode cX4_spread 24 = .ok (.iconst 0, 1) := by decide +kernel
theorem dX4_spread_25 : decode cX4_spread 25 = .ok (.iconst 3, 1) := by decide +kernel
theorem dX4_spread_26 : decode cX4_spread 26 = .ok (.iload_n 2, 1) := by decide +kernel
theorem dX4_spread_27 : decode cX4_spread 27 = .ok (.invokevirtual 156, 3) := by decide +kernel
theorem dX4_spread_30 : decode cX4_spread 30 = .ok (.aload_n 0, 1) := by decide +kernel
theorem dX4_spread_31 : decode cX4_spread 31 = .ok (.getfield 19, 3) := by decide +kernel
theorem dX4_spread_34 : decode cX4_spread 34 = .ok (.aload_n 0, 1) := by decide +kernel
theorem dX4_spread_35 : decode cX4_spread 35 = .ok (.getfield 16, 3) := by decide +kernel
theorem dX4_spread_38 : decode cX4_spread 38 = .ok (.invokevirtual 160, 3) := by decide +kernel
theorem dX4_spread_41 : decode cX4_spread 41 = .ok (.ireturn, 1) := by decide +kernel
theorem dX4_kindFor_0 : decode cX4_kindFor 0 = .ok (.aload_n 0, 1) := by decide +kernel
theorem dX4_kindFor_1 : decode cX4_kindFor 1 = .ok (.iload_n 1, 1) := by decide +kernel
theorem dX4_kindFor_2 : decode cX4_kindFor 2 = .ok (.iload_n 2, 1) := by decide +kernel
theorem dX4_kindFor_3 : decode cX4_kindFor 3 = .ok (.invokevirtual 153, 3) := by decide +kernel
theorem dX4_kindFor_6 : decode cX4_kindFor 6 = .ok (.istore_n 3, 1) := by decide +kernel
theorem dX4_kindFor_7 : decode cX4_kindFor 7 = .ok (.iload_n 3, 1) := by decide +kernel
theorem dX4_kindFor_8 : decode cX4_kindFor 8 = .ok (.ifCond .eq 9, 3) := by decide +kernel
theorem dX4_kindFor_11 : decode cX4_kindFor 11 = .ok (.aload_n 0, 1) := by decide +kernel
theorem dX4_kindFor_12 : decode cX4_kindFor 12 = .ok (.iload_n 3, 1) := by decide +kernel
theorem dX4_kindFor_13 : decode cX4_kindFor 13 = .ok (.invokevirtual 53, 3) := by decide +kernel
theorem dX4_kindFor_16 : decode cX4_kindFor 16 = .ok (.ireturn, 1) := by decide +kernel
theorem dX4_kindFor_17 : decode cX4_kindFor 17 = .ok (.aload_n 0, 1) := by decide +kernel
theorem dX4_kindFor_18 : decode cX4_kindFor 18 = .ok (.iload_n 1, 1) := by decide +kernel
theorem dX4_kindFor_19 : decode cX4_kindFor 19 = .ok (.iconst 0, 1) := by decide +kernel
theorem dX4_kindFor_20 : decode cX4_kindFor 20 = .ok (.iload_n 2, 1) := by decide +kernel
theorem dX4_kindFor_21 : decode cX4_kindFor 21 = .ok (.invokevirtual 164, 3) := by decide +kernel
theorem dX4_kindFor_24 : decode cX4_kindFor 24 = .ok (.ireturn, 1) := by decide +kernel
theorem dX4_bestForItself_0 : decode cX4_bestForItself 0 = .ok (.iconst 0, 1) := by decide +kernel
theorem dX4_bestForItself_1 : decode cX4_bestForItself 1 = .ok (.istore 4, 2) := by decide +kernel
theorem dX4_bestForItself_3 : decode cX4_bestForItself 3 = .ok (.iconst (-1), 1) := by decide +kernel
theorem dX4_bestForItself_4 : decode cX4_bestForItself 4 = .ok (.istore 5, 2) := by decide +kernel
theorem dX4_bestForItself_6 : decode cX4_bestForItself 6 = .ok (.getstatic 167, 3) := by decide +kernel
theorem dX4_bestForItself_9 : decode cX4_bestForItself 9 = .ok (.iload_n 2, 1) := by decide +kernel
theorem dX4_bestForItself_10 : decode cX4_bestForItself 10 = .ok (.iaload, 1) := by decide +kernel
theorem dX4_bestForItself_11 : decode cX4_bestForItself 11 = .ok (.istore 6, 2) := by decide +kernel
theorem dX4_bestForItself_13 : decode cX4_bestForItself 13 = .ok (.iload 6, 2) := by decide +kernel
theorem dX4_bestForItself_15 : decode cX4_bestForItself 15 = .ok (.getstatic 170, 3) := by decide +kernel
theorem dX4_bestForItself_18 : decode cX4_bestForItself 18 = .ok (.iload_n 2, 1) := by decide +kernel
theorem dX4_bestForItself_19 : decode cX4_bestForItself 19 = .ok (.iaload, 1) := by decide +kernel
theorem dX4_bestForItself_20 : decode cX4_bestForItself 20 = .ok (.if_icmp .gt 47, 3) := by decide +kernel
theorem dX4_bestForItself_23 : decode cX4_bestForItself 23 = .ok (.aload_n 0, 1) := by decide +kernel
theorem dX4_bestForItself_24 : decode cX4_bestForItself 24 = .ok (.iload_n 1, 1) := by decide +kernel
theorem dX4_bestForItself_25 : decode cX4_bestForItself 25 = .ok (.iload_n 2, 1) := by decide +kernel
theorem dX4_bestForItself_26 : decode cX4_bestForItself 26 = .ok (.iload 6, 2) := by decide +kernel
theorem dX4_bestForItself_28 : decode cX4_bestForItself 28 = .ok (.iload_n 3, 1) := by decide +kernel
theorem dX4_bestForItself_29 : decode cX4_bestForItself 29 = .ok (.invokevirtual 156, 3) := by decide +kernel
theorem dX4_bestForItself_32 : decode cX4_bestForItself 32 = .ok (.aload_n 0, 1) := by decide +kernel
theorem dX4_bestForItself_33 : decode cX4_bestForItself 33 = .ok (.getfield 16, 3) := by decide +kernel
theorem dX4_bestForItself_36 : decode cX4_bestForItself 36 = .ok (.getfield 113, 3) := by decide +kernel
theorem dX4_bestForItself_39 : decode cX4_bestForItself 39 = .ok (.iload_n 1, 1) := by decide +kernel
theorem dX4_bestForItself_40 : decode cX4_bestForItself 40 = .ok (.iaload, 1) := by decide +kernel
theorem dX4_bestForItself_41 : decode cX4_bestForItself 41 = .ok (.iload 5, 2) := by decide +kernel
theorem dX4_bestForItself_43 : decode cX4_bestForItself 43 = .ok (.if_icmp .le 18, 3) := by decide +kernel
theorem dX4_bestForItself_46 : decode cX4_bestForItself 46 = .ok (.aload_n 0, 1) := by decide +kernel
theorem dX4_bestForItself_47 : decode cX4_bestForItself 47 = .ok (.getfield 16, 3) := by decide +kernel
theorem dX4_bestForItself_50 : decode cX4_bestForItself 50 = .ok (.getfield 113, 3) := by decide +kernel
theorem dX4_bestForItself_53 : decode cX4_bestForItself 53 = .ok (.iload_n 1, 1) := by decide +kernel
theorem dX4_bestForItself_54 : decode cX4_bestForItself 54 = .ok (.iaload, 1) := by decide +kernel
theorem dX4_bestForItself_55 : decode cX4_bestForItself 55 = .ok (.istore 5, 2) := by decide +kernel
theorem dX4_bestForItself_57 : decode cX4_bestForItself 57 = .ok (.iload 6, 2) := by decide +kernel
theorem dX4_bestForItself_59 : decode cX4_bestForItself 59 = .ok (.istore 4, 2) := by decide +kernel
theorem dX4_bestForItself_61 : decode cX4_bestForItself 61 = .ok (.iinc 6 1, 3) := by decide +kernel
theorem dX4_bestForItself_64 : decode cX4_bestForItself 64 = .ok (.goto (-51), 3) := by decide +kernel
theorem dX4_bestForItself_67 : decode cX4_bestForItself 67 = .ok (.iload 4, 2) := by decide +kernel
theorem dX4_bestForItself_69 : decode cX4_bestForItself 69 = .ok (.ireturn, 1) := by decide +kernel
theorem dX4_tempted_0 : decode cX4_tempted 0 = .ok (.aload_n 0, 1) := by decide +kernel
theorem dX4_tempted_1 : decode cX4_tempted 1 = .ok (.iload_n 1, 1) := by decide +kernel
theorem dX4_tempted_2 : decode cX4_tempted 2 = .ok (.bipush 60, 2) := by decide +kernel
theorem dX4_tempted_4 : decode cX4_tempted 4 = .ok (.invokevirtual 92, 3) := by decide +kernel
theorem dX4_tempted_7 : decode cX4_tempted 7 = .ok (.istore_n 2, 1) := by decide +kernel
theorem dX4_tempted_8 : decode cX4_tempted 8 = .ok (.iload_n 2, 1) := by decide +kernel
theorem dX4_tempted_9 : decode cX4_tempted 9 = .ok (.ifCond .eq 9, 3) := by decide +kernel
theorem dX4_tempted_12 : decode cX4_tempted 12 = .ok (.aload_n 0, 1) := by decide +kernel
theorem dX4_tempted_13 : decode cX4_tempted 13 = .ok (.iload_n 2, 1) := by decide +kernel
theorem dX4_tempted_14 : decode cX4_tempted 14 = .ok (.invokevirtual 53, 3) := by decide +kernel
theorem dX4_tempted_17 : decode cX4_tempted 17 = .ok (.ireturn, 1) := by decide +kernel
theorem dX4_tempted_18 : decode cX4_tempted 18 = .ok (.aload_n 0, 1) := by decide +kernel
theorem dX4_tempted_19 : decode cX4_tempted 19 = .ok (.iload_n 1, 1) := by decide +kernel
theorem dX4_tempted_20 : decode cX4_tempted 20 = .ok (.invokevirtual 141, 3) := by decide +kernel
theorem dX4_tempted_23 : decode cX4_tempted 23 = .ok (.iconst 0, 1) := by decide +kernel
theorem dX4_tempted_24 : decode cX4_tempted 24 = .ok (.istore_n 3, 1) := by decide +kernel
theorem dX4_tempted_25 : decode cX4_tempted 25 = .ok (.iconst 0, 1) := by decide +kernel
theorem dX4_tempted_26 : decode cX4_tempted 26 = .ok (.istore 4, 2) := by decide +kernel
theorem dX4_tempted_28 : decode cX4_tempted 28 = .ok (.iload 4, 2) := by decide +kernel
theorem dX4_tempted_30 : decode cX4_tempted 30 = .ok (.aload_n 0, 1) := by decide +kernel
theorem dX4_tempted_31 : decode cX4_tempted 31 = .ok (.getfield 12, 3) := by decide +kernel
theorem dX4_tempted_34 : decode cX4_tempted 34 = .ok (.getfield 57, 3) := by decide +kernel
theorem dX4_tempted_37 : decode cX4_tempted 37 = .ok (.if_icmp .ge 48, 3) := by decide +kernel
theorem dX4_tempted_40 : decode cX4_tempted 40 = .ok (.aload_n 0, 1) := by decide +kernel
theorem dX4_tempted_41 : decode cX4_tempted 41 = .ok (.iload 4, 2) := by decide +kernel
theorem dX4_tempted_43 : decode cX4_tempted 43 = .ok (.iconst 0, 1) := by decide +kernel
theorem dX4_tempted_44 : decode cX4_tempted 44 = .ok (.iconst 0, 1) := by decide +kernel
theorem dX4_tempted_45 : decode cX4_tempted 45 = .ok (.iload_n 1, 1) := by decide +kernel
theorem dX4_tempted_46 : decode cX4_tempted 46 = .ok (.invokevirtual 156, 3) := by decide +kernel
theorem dX4_tempted_49 : decode cX4_tempted 49 = .ok (.aload_n 0, 1) := by decide +kernel
theorem dX4_tempted_50 : decode cX4_tempted 50 = .ok (.getfield 16, 3) := by decide +kernel
theorem dX4_tempted_53 : decode cX4_tempted 53 = .ok (.getfield 113, 3) := by decide +kernel
theorem dX4_tempted_56 : decode cX4_tempted 56 = .ok (.iload 4, 2) := by decide +kernel
theorem dX4_tempted_58 : decode cX4_tempted 58 = .ok (.iaload, 1) := by decide +kernel
theorem dX4_tempted_59 : decode cX4_tempted 59 = .ok (.aload_n 0, 1) := by decide +kernel
theorem dX4_tempted_60 : decode cX4_tempted 60 = .ok (.getfield 19, 3) := by decide +kernel
theorem dX4_tempted_63 : decode cX4_tempted 63 = .ok (.getfield 113, 3) := by decide +kernel
theorem dX4_tempted_66 : decode cX4_tempted 66 = .ok (.iload 4, 2) := by decide +kernel
theorem dX4_tempted_68 : decode cX4_tempted 68 = .ok (.iaload, 1) := by decide +kernel
theorem dX4_tempted_69 : decode cX4_tempted 69 = .ok (.if_icmp .le 10, 3) := by decide +kernel
theorem dX4_tempted_72 : decode cX4_tempted 72 = .ok (.iload_n 3, 1) := by decide +kernel
theorem dX4_tempted_73 : decode cX4_tempted 73 = .ok (.iconst 1, 1) := by decide +kernel
theorem dX4_tempted_74 : decode cX4_tempted 74 = .ok (.iload 4, 2) := by decide +kernel
theorem dX4_tempted_76 : decode cX4_tempted 76 = .ok (.ishl, 1) := by decide +kernel
theorem dX4_tempted_77 : decode cX4_tempted 77 = .ok (.ior, 1) := by decide +kernel
theorem dX4_tempted_78 : decode cX4_tempted 78 = .ok (.istore_n 3, 1) := by decide +kernel
theorem dX4_tempted_79 : decode cX4_tempted 79 = .ok (.iinc 4 1, 3) := by decide +kernel
theorem dX4_tempted_82 : decode cX4_tempted 82 = .ok (.goto (-54), 3) := by decide +kernel
theorem dX4_tempted_85 : decode cX4_tempted 85 = .ok (.iload_n 3, 1) := by decide +kernel
theorem dX4_tempted_86 : decode cX4_tempted 86 = .ok (.ireturn, 1) := by decide +kernel
theorem dX4_missed_0 : decode cX4_missed 0 = .ok (.aload_n 0, 1) := by decide +kernel
theorem dX4_missed_1 : decode cX4_missed 1 = .ok (.iload_n 1, 1) := by decide +kernel
theorem dX4_missed_2 : decode cX4_missed 2 = .ok (.bipush 60, 2) := by decide +kernel
theorem dX4_missed_4 : decode cX4_missed 4 = .ok (.invokevirtual 92, 3) := by decide +kernel
theorem dX4_missed_7 : decode cX4_missed 7 = .ok (.istore_n 2, 1) := by decide +kernel
theorem dX4_missed_8 : decode cX4_missed 8 = .ok (.iload_n 2, 1) := by decide +kernel
theorem dX4_missed_9 : decode cX4_missed 9 = .ok (.ifCond .ne 16, 3) := by decide +kernel
theorem dX4_missed_12 : decode cX4_missed 12 = .ok (.aload_n 0, 1) := by decide +kernel
theorem dX4_missed_13 : decode cX4_missed 13 = .ok (.getfield 12, 3) := by decide +kernel
theorem dX4_missed_16 : decode cX4_missed 16 = .ok (.getfield 57, 3) := by decide +kernel
theorem dX4_missed_19 : decode cX4_missed 19 = .ok (.ifCond .ne 6, 3) := by decide +kernel
theorem dX4_missed_22 : decode cX4_missed 22 = .ok (.ldc 137, 2) := by decide +kernel
theorem dX4_missed_24 : decode cX4_missed 24 = .ok (.istore_n 2, 1) := by decide +kernel
theorem dX4_missed_25 : decode cX4_missed 25 = .ok (.iload_n 2, 1) := by decide +kernel
theorem dX4_missed_26 : decode cX4_missed 26 = .ok (.ifCond .eq 9, 3) := by decide +kernel
theorem dX4_missed_29 : decode cX4_missed 29 = .ok (.aload_n 0, 1) := by decide +kernel
theorem dX4_missed_30 : decode cX4_missed 30 = .ok (.iload_n 2, 1) := by decide +kernel
theorem dX4_missed_31 : decode cX4_missed 31 = .ok (.invokevirtual 53, 3) := by decide +kernel
theorem dX4_missed_34 : decode cX4_missed 34 = .ok (.ireturn, 1) := by decide +kernel
theorem dX4_missed_35 : decode cX4_missed 35 = .ok (.aload_n 0, 1) := by decide +kernel
theorem dX4_missed_36 : decode cX4_missed 36 = .ok (.iload_n 1, 1) := by decide +kernel
theorem dX4_missed_37 : decode cX4_missed 37 = .ok (.invokevirtual 141, 3) := by decide +kernel
theorem dX4_missed_40 : decode cX4_missed 40 = .ok (.iconst 0, 1) := by decide +kernel
theorem dX4_missed_41 : decode cX4_missed 41 = .ok (.istore_n 3, 1) := by decide +kernel
theorem dX4_missed_42 : decode cX4_missed 42 = .ok (.aload_n 0, 1) := by decide +kernel
theorem dX4_missed_43 : decode cX4_missed 43 = .ok (.iconst 0, 1) := by decide +kernel
theorem dX4_missed_44 : decode cX4_missed 44 = .ok (.iload_n 1, 1) := by decide +kernel
theorem dX4_missed_45 : decode cX4_missed 45 = .ok (.invokevirtual 173, 3) := by decide +kernel
theorem dX4_missed_48 : decode cX4_missed 48 = .ok (.istore 4, 2) := by decide +kernel
theorem dX4_missed_50 : decode cX4_missed 50 = .ok (.iconst 1, 1) := by decide +kernel
theorem dX4_missed_51 : decode cX4_missed 51 = .ok (.istore 5, 2) := by decide +kernel
theorem dX4_missed_53 : decode cX4_missed 53 = .ok (.iload 5, 2) := by decide +kernel
theorem dX4_missed_55 : decode cX4_missed 55 = .ok (.aload_n 0, 1) := by decide +kernel
theorem dX4_missed_56 : decode cX4_missed 56 = .ok (.getfield 12, 3) := by decide +kernel
theorem dX4_missed_59 : decode cX4_missed 59 = .ok (.getfield 57, 3) := by decide +kernel
theorem dX4_missed_62 : decode cX4_missed 62 = .ok (.if_icmp .ge 32, 3) := by decide +kernel
theorem dX4_missed_65 : decode cX4_missed 65 = .ok (.aload_n 0, 1) := by decide +kernel
theorem dX4_missed_66 : decode cX4_missed 66 = .ok (.iload 5, 2) := by decide +kernel
theorem dX4_missed_68 : decode cX4_missed 68 = .ok (.iload_n 1, 1) := by decide +kernel
theorem dX4_missed_69 : decode cX4_missed 69 = .ok (.invokevirtual 173, 3) := by decide +kernel
theorem dX4_missed_72 : decode cX4_missed 72 = .ok (.istore 6, 2) := by decide +kernel
theorem dX4_missed_74 : decode cX4_missed 74 = .ok (.iload 6, 2) := by decide +kernel
theorem dX4_missed_76 : decode cX4_missed 76 = .ok (.iload 4, 2) := by decide +kernel
theorem dX4_missed_78 : decode cX4_missed 78 = .ok (.if_icmp .le 10, 3) := by decide +kernel
theorem dX4_missed_81 : decode cX4_missed 81 = .ok (.iload 6, 2) := by decide +kernel
theorem dX4_missed_83 : decode cX4_missed 83 = .ok (.istore 4, 2) := by decide +kernel
theorem dX4_missed_85 : decode cX4_missed 85 = .ok (.iload 5, 2) := by decide +kernel
theorem dX4_missed_87 : decode cX4_missed 87 = .ok (.istore_n 3, 1) := by decide +kernel
theorem dX4_missed_88 : decode cX4_missed 88 = .ok (.iinc 5 1, 3) := by decide +kernel
theorem dX4_missed_91 : decode cX4_missed 91 = .ok (.goto (-38), 3) := by decide +kernel
theorem dX4_missed_94 : decode cX4_missed 94 = .ok (.iload_n 3, 1) := by decide +kernel
theorem dX4_missed_95 : decode cX4_missed 95 = .ok (.ireturn, 1) := by decide +kernel
theorem dX4_takenByAbsence_0 : decode cX4_takenByAbsence 0 = .ok (.aload_n 0, 1) := by decide +kernel
theorem dX4_takenByAbsence_1 : decode cX4_takenByAbsence 1 = .ok (.iload_n 1, 1) := by decide +kernel
theorem dX4_takenByAbsence_2 : decode cX4_takenByAbsence 2 = .ok (.iconst 5, 1) := by decide +kernel
theorem dX4_takenByAbsence_3 : decode cX4_takenByAbsence 3 = .ok (.iconst 1, 1) := by decide +kernel
theorem dX4_takenByAbsence_4 : decode cX4_takenByAbsence 4 = .ok (.iload_n 2, 1) := by decide +kernel
theorem dX4_takenByAbsence_5 : decode cX4_takenByAbsence 5 = .ok (.invokevirtual 156, 3) := by decide +kernel
theorem dX4_takenByAbsence_8 : decode cX4_takenByAbsence 8 = .ok (.aload_n 0, 1) := by decide +kernel
theorem dX4_takenByAbsence_9 : decode cX4_takenByAbsence 9 = .ok (.getfield 19, 3) := by decide +kernel
theorem dX4_takenByAbsence_12 : decode cX4_takenByAbsence 12 = .ok (.aload_n 0, 1) := by decide +kernel
theorem dX4_takenByAbsence_13 : decode cX4_takenByAbsence 13 = .ok (.getfield 19, 3) := by decide +kernel
theorem dX4_takenByAbsence_16 : decode cX4_takenByAbsence 16 = .ok (.getfield 113, 3) := by decide +kernel
theorem dX4_takenByAbsence_19 : decode cX4_takenByAbsence 19 = .ok (.invokevirtual 109, 3) := by decide +kernel
theorem dX4_takenByAbsence_22 : decode cX4_takenByAbsence 22 = .ok (.aload_n 0, 1) := by decide +kernel
theorem dX4_takenByAbsence_23 : decode cX4_takenByAbsence 23 = .ok (.getfield 16, 3) := by decide +kernel
theorem dX4_takenByAbsence_26 : decode cX4_takenByAbsence 26 = .ok (.aload_n 0, 1) := by decide +kernel
theorem dX4_takenByAbsence_27 : decode cX4_takenByAbsence 27 = .ok (.getfield 16, 3) := by decide +kernel
theorem dX4_takenByAbsence_30 : decode cX4_takenByAbsence 30 = .ok (.getfield 113, 3) := by decide +kernel
theorem dX4_takenByAbsence_33 : decode cX4_takenByAbsence 33 = .ok (.invokevirtual 109, 3) := by decide +kernel
theorem dX4_takenByAbsence_36 : decode cX4_takenByAbsence 36 = .ok (.isub, 1) := by decide +kernel
theorem dX4_takenByAbsence_37 : decode cX4_takenByAbsence 37 = .ok (.istore_n 3, 1) := by decide +kernel
theorem dX4_takenByAbsence_38 : decode cX4_takenByAbsence 38 = .ok (.iload_n 3, 1) := by decide +kernel
theorem dX4_takenByAbsence_39 : decode cX4_takenByAbsence 39 = .ok (.aload_n 0, 1) := by decide +kernel
theorem dX4_takenByAbsence_40 : decode cX4_takenByAbsence 40 = .ok (.getfield 19, 3) := by decide +kernel
theorem dX4_takenByAbsence_43 : decode cX4_takenByAbsence 43 = .ok (.getfield 113, 3) := by decide +kernel
theorem dX4_takenByAbsence_46 : decode cX4_takenByAbsence 46 = .ok (.iload_n 1, 1) := by decide +kernel
theorem dX4_takenByAbsence_47 : decode cX4_takenByAbsence 47 = .ok (.iaload, 1) := by decide +kernel
theorem dX4_takenByAbsence_48 : decode cX4_takenByAbsence 48 = .ok (.aload_n 0, 1) := by decide +kernel
theorem dX4_takenByAbsence_49 : decode cX4_takenByAbsence 49 = .ok (.getfield 16, 3) := by decide +kernel
theorem dX4_takenByAbsence_52 : decode cX4_takenByAbsence 52 = .ok (.getfield 113, 3) := by decide +kernel
theorem dX4_takenByAbsence_55 : decode cX4_takenByAbsence 55 = .ok (.iload_n 1, 1) := by decide +kernel
theorem dX4_takenByAbsence_56 : decode cX4_takenByAbsence 56 = .ok (.iaload, 1) := by decide +kernel
theorem dX4_takenByAbsence_57 : decode cX4_takenByAbsence 57 = .ok (.isub, 1) := by decide +kernel
theorem dX4_takenByAbsence_58 : decode cX4_takenByAbsence 58 = .ok (.isub, 1) := by decide +kernel
theorem dX4_takenByAbsence_59 : decode cX4_takenByAbsence 59 = .ok (.ireturn, 1) := by decide +kernel
theorem dX4_warmest_0 : decode cX4_warmest 0 = .ok (.aload_n 0, 1) := by decide +kernel
theorem dX4_warmest_1 : decode cX4_warmest 1 = .ok (.iload_n 1, 1) := by decide +kernel
theorem dX4_warmest_2 : decode cX4_warmest 2 = .ok (.invokevirtual 176, 3) := by decide +kernel
theorem dX4_warmest_5 : decode cX4_warmest 5 = .ok (.istore_n 2, 1) := by decide +kernel
theorem dX4_warmest_6 : decode cX4_warmest 6 = .ok (.iload_n 2, 1) := by decide +kernel
theorem dX4_warmest_7 : decode cX4_warmest 7 = .ok (.ifCond .eq 9, 3) := by decide +kernel
theorem dX4_warmest_10 : decode cX4_warmest 10 = .ok (.aload_n 0, 1) := by decide +kernel
theorem dX4_warmest_11 : decode cX4_warmest 11 = .ok (.iload_n 2, 1) := by decide +kernel
theorem dX4_warmest_12 : decode cX4_warmest 12 = .ok (.invokevirtual 53, 3) := by decide +kernel
theorem dX4_warmest_15 : decode cX4_warmest 15 = .ok (.ireturn, 1) := by decide +kernel
theorem dX4_warmest_16 : decode cX4_warmest 16 = .ok (.aload_n 0, 1) := by decide +kernel
theorem dX4_warmest_17 : decode cX4_warmest 17 = .ok (.iload_n 1, 1) := by decide +kernel
theorem dX4_warmest_18 : decode cX4_warmest 18 = .ok (.invokevirtual 179, 3) := by decide +kernel
theorem dX4_warmest_21 : decode cX4_warmest 21 = .ok (.istore_n 3, 1) := by decide +kernel
theorem dX4_warmest_22 : decode cX4_warmest 22 = .ok (.iload_n 3, 1) := by decide +kernel
theorem dX4_warmest_23 : decode cX4_warmest 23 = .ok (.ldc 137, 2) := by decide +kernel
theorem dX4_warmest_25 : decode cX4_warmest 25 = .ok (.if_icmp .ne 11, 3) := by decide +kernel
theorem dX4_warmest_28 : decode cX4_warmest 28 = .ok (.aload_n 0, 1) := by decide +kernel
theorem dX4_warmest_29 : decode cX4_warmest 29 = .ok (.getfield 19, 3) := by decide +kernel
theorem dX4_warmest_32 : decode cX4_warmest 32 = .ok (.invokevirtual 123, 3) := by decide +kernel
theorem dX4_warmest_35 : decode cX4_warmest 35 = .ok (.ireturn, 1) := by decide +kernel
theorem dX4_warmest_36 : decode cX4_warmest 36 = .ok (.aload_n 0, 1) := by decide +kernel
theorem dX4_warmest_37 : decode cX4_warmest 37 = .ok (.iload_n 3, 1) := by decide +kernel
theorem dX4_warmest_38 : decode cX4_warmest 38 = .ok (.bipush 10, 2) := by decide +kernel
theorem dX4_warmest_40 : decode cX4_warmest 40 = .ok (.idiv, 1) := by decide +kernel
theorem dX4_warmest_41 : decode cX4_warmest 41 = .ok (.iload_n 3, 1) := by decide +kernel
theorem dX4_warmest_42 : decode cX4_warmest 42 = .ok (.bipush 10, 2) := by decide +kernel
theorem dX4_warmest_44 : decode cX4_warmest 44 = .ok (.irem, 1) := by decide +kernel
theorem dX4_warmest_45 : decode cX4_warmest 45 = .ok (.iload_n 1, 1) := by decide +kernel
theorem dX4_warmest_46 : decode cX4_warmest 46 = .ok (.invokevirtual 182, 3) := by decide +kernel
theorem dX4_warmest_49 : decode cX4_warmest 49 = .ok (.aload_n 0, 1) := by decide +kernel
theorem dX4_warmest_50 : decode cX4_warmest 50 = .ok (.getfield 16, 3) := by decide +kernel
theorem dX4_warmest_53 : decode cX4_warmest 53 = .ok (.invokevirtual 123, 3) := by decide +kernel
theorem dX4_warmest_56 : decode cX4_warmest 56 = .ok (.ireturn, 1) := by decide +kernel
theorem dX4_exchange_0 : decode cX4_exchange 0 = .ok (.aload_n 0, 1) := by decide +kernel
theorem dX4_exchange_1 : decode cX4_exchange 1 = .ok (.iload_n 1, 1) := by decide +kernel
theorem dX4_exchange_2 : decode cX4_exchange 2 = .ok (.invokevirtual 176, 3) := by decide +kernel
theorem dX4_exchange_5 : decode cX4_exchange 5 = .ok (.istore_n 2, 1) := by decide +kernel
theorem dX4_exchange_6 : decode cX4_exchange 6 = .ok (.iload_n 2, 1) := by decide +kernel
theorem dX4_exchange_7 : decode cX4_exchange 7 = .ok (.ifCond .eq 9, 3) := by decide +kernel
theorem dX4_exchange_10 : decode cX4_exchange 10 = .ok (.aload_n 0, 1) := by decide +kernel
theorem dX4_exchange_11 : decode cX4_exchange 11 = .ok (.iload_n 2, 1) := by decide +kernel
theorem dX4_exchange_12 : decode cX4_exchange 12 = .ok (.invokevirtual 53, 3) := by decide +kernel
theorem dX4_exchange_15 : decode cX4_exchange 15 = .ok (.ireturn, 1) := by decide +kernel
theorem dX4_exchange_16 : decode cX4_exchange 16 = .ok (.aload_n 0, 1) := by decide +kernel
theorem dX4_exchange_17 : decode cX4_exchange 17 = .ok (.iload_n 1, 1) := by decide +kernel
theorem dX4_exchange_18 : decode cX4_exchange 18 = .ok (.invokevirtual 179, 3) := by decide +kernel
theorem dX4_exchange_21 : decode cX4_exchange 21 = .ok (.istore_n 3, 1) := by decide +kernel
theorem dX4_exchange_22 : decode cX4_exchange 22 = .ok (.iload_n 3, 1) := by decide +kernel
theorem dX4_exchange_23 : decode cX4_exchange 23 = .ok (.ldc 137, 2) := by decide +kernel
theorem dX4_exchange_25 : decode cX4_exchange 25 = .ok (.if_icmp .ne 12, 3) := by decide +kernel
theorem dX4_exchange_28 : decode cX4_exchange 28 = .ok (.aload_n 0, 1) := by decide +kernel
theorem dX4_exchange_29 : decode cX4_exchange 29 = .ok (.ldc 137, 2) := by decide +kernel
theorem dX4_exchange_31 : decode cX4_exchange 31 = .ok (.invokevirtual 53, 3) := by decide +kernel
theorem dX4_exchange_34 : decode cX4_exchange 34 = .ok (.goto 4, 3) := by decide +kernel
theorem dX4_exchange_37 : decode cX4_exchange 37 = .ok (.iload_n 3, 1) := by decide +kernel
theorem dX4_exchange_38 : decode cX4_exchange 38 = .ok (.ireturn, 1) := by decide +kernel
theorem dX4_bestPair_0 : decode cX4_bestPair 0 = .ok (.ldc 137, 2) := by decide +kernel
theorem dX4_bestPair_2 : decode cX4_bestPair 2 = .ok (.istore_n 2, 1) := by decide +kernel
theorem dX4_bestPair_3 : decode cX4_bestPair 3 = .ok (.aload_n 0, 1) := by decide +kernel
theorem dX4_bestPair_4 : decode cX4_bestPair 4 = .ok (.iload_n 1, 1) := by decide +kernel
theorem dX4_bestPair_5 : decode cX4_bestPair 5 = .ok (.invokevirtual 141, 3) := by decide +kernel
theorem dX4_bestPair_8 : decode cX4_bestPair 8 = .ok (.aload_n 0, 1) := by decide +kernel
theorem dX4_bestPair_9 : decode cX4_bestPair 9 = .ok (.getfield 19, 3) := by decide +kernel
theorem dX4_bestPair_12 : decode cX4_bestPair 12 = .ok (.invokevirtual 123, 3) := by decide +kernel
theorem dX4_bestPair_15 : decode cX4_bestPair 15 = .ok (.istore_n 3, 1) := by decide +kernel
theorem dX4_bestPair_16 : decode cX4_bestPair 16 = .ok (.iconst 0, 1) := by decide +kernel
theorem dX4_bestPair_17 : decode cX4_bestPair 17 = .ok (.istore 4, 2) := by decide +kernel
theorem dX4_bestPair_19 : decode cX4_bestPair 19 = .ok (.iload 4, 2) := by decide +kernel
theorem dX4_bestPair_21 : decode cX4_bestPair 21 = .ok (.aload_n 0, 1) := by decide +kernel
theorem dX4_bestPair_22 : decode cX4_bestPair 22 = .ok (.getfield 12, 3) := by decide +kernel
theorem dX4_bestPair_25 : decode cX4_bestPair 25 = .ok (.getfield 57, 3) := by decide +kernel
theorem dX4_bestPair_28 : decode cX4_bestPair 28 = .ok (.if_icmp .ge 70, 3) := by decide +kernel
theorem dX4_bestPair_31 : decode cX4_bestPair 31 = .ok (.iload 4, 2) := by decide +kernel
theorem dX4_bestPair_33 : decode cX4_bestPair 33 = .ok (.iconst 1, 1) := by decide +kernel
theorem dX4_bestPair_34 : decode cX4_bestPair 34 = .ok (.iadd, 1) := by decide +kernel
theorem dX4_bestPair_35 : decode cX4_bestPair 35 = .ok (.istore 5, 2) := by decide +kernel
theorem dX4_bestPair_37 : decode cX4_bestPair 37 = .ok (.iload 5, 2) := by decide +kernel
theorem dX4_bestPair_39 : decode cX4_bestPair 39 = .ok (.aload_n 0, 1) := by decide +kernel
theorem dX4_bestPair_40 : decode cX4_bestPair 40 = .ok (.getfield 12, 3) := by decide +kernel
theorem dX4_bestPair_43 : decode cX4_bestPair 43 = .ok (.getfield 57, 3) := by decide +kernel
theorem dX4_bestPair_46 : decode cX4_bestPair 46 = .ok (.if_icmp .ge 46, 3) := by decide +kernel
theorem dX4_bestPair_49 : decode cX4_bestPair 49 = .ok (.aload_n 0, 1) := by decide +kernel
theorem dX4_bestPair_50 : decode cX4_bestPair 50 = .ok (.iload 4, 2) := by decide +kernel
theorem dX4_bestPair_52 : decode cX4_bestPair 52 = .ok (.iload 5, 2) := by decide +kernel
theorem dX4_bestPair_54 : decode cX4_bestPair 54 = .ok (.iload_n 1, 1) := by decide +kernel
theorem dX4_bestPair_55 : decode cX4_bestPair 55 = .ok (.invokevirtual 182, 3) := by decide +kernel
theorem dX4_bestPair_58 : decode cX4_bestPair 58 = .ok (.aload_n 0, 1) := by decide +kernel
theorem dX4_bestPair_59 : decode cX4_bestPair 59 = .ok (.getfield 16, 3) := by decide +kernel
theorem dX4_bestPair_62 : decode cX4_bestPair 62 = .ok (.invokevirtual 123, 3) := by decide +kernel
theorem dX4_bestPair_65 : decode cX4_bestPair 65 = .ok (.iload_n 3, 1) := by decide +kernel
theorem dX4_bestPair_66 : decode cX4_bestPair 66 = .ok (.if_icmp .le 20, 3) := by decide +kernel
theorem dX4_bestPair_69 : decode cX4_bestPair 69 = .ok (.aload_n 0, 1) := by decide +kernel
theorem dX4_bestPair_70 : decode cX4_bestPair 70 = .ok (.getfield 16, 3) := by decide +kernel
theorem dX4_bestPair_73 : decode cX4_bestPair 73 = .ok (.invokevirtual 123, 3) := by decide +kernel
theorem dX4_bestPair_76 : decode cX4_bestPair 76 = .ok (.istore_n 3, 1) := by decide +kernel
theorem dX4_bestPair_77 : decode cX4_bestPair 77 = .ok (.bipush 10, 2) := by decide +kernel
theorem dX4_bestPair_79 : decode cX4_bestPair 79 = .ok (.iload 4, 2) := by decide +kernel
theorem dX4_bestPair_81 : decode cX4_bestPair 81 = .ok (.imul, 1) := by decide +kernel
theorem dX4_bestPair_82 : decode cX4_bestPair 82 = .ok (.iload 5, 2) := by decide +kernel
theorem dX4_bestPair_84 : decode cX4_bestPair 84 = .ok (.iadd, 1) := by decide +kernel
theorem dX4_bestPair_85 : decode cX4_bestPair 85 = .ok (.istore_n 2, 1) := by decide +kernel
theorem dX4_bestPair_86 : decode cX4_bestPair 86 = .ok (.iinc 5 1, 3) := by decide +kernel
theorem dX4_bestPair_89 : decode cX4_bestPair 89 = .ok (.goto (-52), 3) := by decide +kernel
theorem dX4_bestPair_92 : decode cX4_bestPair 92 = .ok (.iinc 4 1, 3) := by decide +kernel
theorem dX4_bestPair_95 : decode cX4_bestPair 95 = .ok (.goto (-76), 3) := by decide +kernel
theorem dX4_bestPair_98 : decode cX4_bestPair 98 = .ok (.iload_n 2, 1) := by decide +kernel
theorem dX4_bestPair_99 : decode cX4_bestPair 99 = .ok (.ireturn, 1) := by decide +kernel
theorem dX4_deal_0 : decode cX4_deal 0 = .ok (.aload_n 0, 1) := by decide +kernel
theorem dX4_deal_1 : decode cX4_deal 1 = .ok (.iload_n 1, 1) := by decide +kernel
theorem dX4_deal_2 : decode cX4_deal 2 = .ok (.invokevirtual 176, 3) := by decide +kernel
theorem dX4_deal_5 : decode cX4_deal 5 = .ok (.istore_n 2, 1) := by decide +kernel
theorem dX4_deal_6 : decode cX4_deal 6 = .ok (.iload_n 2, 1) := by decide +kernel
theorem dX4_deal_7 : decode cX4_deal 7 = .ok (.ifCond .eq 9, 3) := by decide +kernel
theorem dX4_deal_10 : decode cX4_deal 10 = .ok (.aload_n 0, 1) := by decide +kernel
theorem dX4_deal_11 : decode cX4_deal 11 = .ok (.iload_n 2, 1) := by decide +kernel
theorem dX4_deal_12 : decode cX4_deal 12 = .ok (.invokevirtual 53, 3) := by decide +kernel
theorem dX4_deal_15 : decode cX4_deal 15 = .ok (.ireturn, 1) := by decide +kernel
theorem dX4_deal_16 : decode cX4_deal 16 = .ok (.aload_n 0, 1) := by decide +kernel
theorem dX4_deal_17 : decode cX4_deal 17 = .ok (.iload_n 1, 1) := by decide +kernel
theorem dX4_deal_18 : decode cX4_deal 18 = .ok (.invokevirtual 141, 3) := by decide +kernel
theorem dX4_deal_21 : decode cX4_deal 21 = .ok (.iconst 0, 1) := by decide +kernel
theorem dX4_deal_22 : decode cX4_deal 22 = .ok (.istore_n 3, 1) := by decide +kernel
theorem dX4_deal_23 : decode cX4_deal 23 = .ok (.iload_n 3, 1) := by decide +kernel
theorem dX4_deal_24 : decode cX4_deal 24 = .ok (.aload_n 0, 1) := by decide +kernel
theorem dX4_deal_25 : decode cX4_deal 25 = .ok (.getfield 12, 3) := by decide +kernel
theorem dX4_deal_28 : decode cX4_deal 28 = .ok (.getfield 57, 3) := by decide +kernel
theorem dX4_deal_31 : decode cX4_deal 31 = .ok (.if_icmp .ge 92, 3) := by decide +kernel
theorem dX4_deal_34 : decode cX4_deal 34 = .ok (.iload_n 3, 1) := by decide +kernel
theorem dX4_deal_35 : decode cX4_deal 35 = .ok (.iconst 1, 1) := by decide +kernel
theorem dX4_deal_36 : decode cX4_deal 36 = .ok (.iadd, 1) := by decide +kernel
theorem dX4_deal_37 : decode cX4_deal 37 = .ok (.istore 4, 2) := by decide +kernel
theorem dX4_deal_39 : decode cX4_deal 39 = .ok (.iload 4, 2) := by decide +kernel
theorem dX4_deal_41 : decode cX4_deal 41 = .ok (.aload_n 0, 1) := by decide +kernel
theorem dX4_deal_42 : decode cX4_deal 42 = .ok (.getfield 12, 3) := by decide +kernel
theorem dX4_deal_45 : decode cX4_deal 45 = .ok (.getfield 57, 3) := by decide +kernel
theorem dX4_deal_48 : decode cX4_deal 48 = .ok (.if_icmp .ge 69, 3) := by decide +kernel
theorem dX4_deal_51 : decode cX4_deal 51 = .ok (.aload_n 0, 1) := by decide +kernel
theorem dX4_deal_52 : decode cX4_deal 52 = .ok (.iload_n 3, 1) := by decide +kernel
theorem dX4_deal_53 : decode cX4_deal 53 = .ok (.iload 4, 2) := by decide +kernel
theorem dX4_deal_55 : decode cX4_deal 55 = .ok (.iload_n 1, 1) := by decide +kernel
theorem dX4_deal_56 : decode cX4_deal 56 = .ok (.invokevirtual 182, 3) := by decide +kernel
theorem dX4_deal_59 : decode cX4_deal 59 = .ok (.aload_n 0, 1) := by decide +kernel
theorem dX4_deal_60 : decode cX4_deal 60 = .ok (.getfield 16, 3) := by decide +kernel
theorem dX4_deal_63 : decode cX4_deal 63 = .ok (.getfield 113, 3) := by decide +kernel
theorem dX4_deal_66 : decode cX4_deal 66 = .ok (.iload 4, 2) := by decide +kernel
theorem dX4_deal_68 : decode cX4_deal 68 = .ok (.iaload, 1) := by decide +kernel
theorem dX4_deal_69 : decode cX4_deal 69 = .ok (.aload_n 0, 1) := by decide +kernel
theorem dX4_deal_70 : decode cX4_deal 70 = .ok (.getfield 19, 3) := by decide +kernel
theorem dX4_deal_73 : decode cX4_deal 73 = .ok (.getfield 113, 3) := by decide +kernel
theorem dX4_deal_76 : decode cX4_deal 76 = .ok (.iload_n 3, 1) := by decide +kernel
theorem dX4_deal_77 : decode cX4_deal 77 = .ok (.iaload, 1) := by decide +kernel
theorem dX4_deal_78 : decode cX4_deal 78 = .ok (.if_icmp .le 33, 3) := by decide +kernel
theorem dX4_deal_81 : decode cX4_deal 81 = .ok (.aload_n 0, 1) := by decide +kernel
theorem dX4_deal_82 : decode cX4_deal 82 = .ok (.getfield 16, 3) := by decide +kernel
theorem dX4_deal_85 : decode cX4_deal 85 = .ok (.getfield 113, 3) := by decide +kernel
theorem dX4_deal_88 : decode cX4_deal 88 = .ok (.iload_n 3, 1) := by decide +kernel
theorem dX4_deal_89 : decode cX4_deal 89 = .ok (.iaload, 1) := by decide +kernel
theorem dX4_deal_90 : decode cX4_deal 90 = .ok (.aload_n 0, 1) := by decide +kernel
theorem dX4_deal_91 : decode cX4_deal 91 = .ok (.getfield 19, 3) := by decide +kernel
theorem dX4_deal_94 : decode cX4_deal 94 = .ok (.getfield 113, 3) := by decide +kernel
theorem dX4_deal_97 : decode cX4_deal 97 = .ok (.iload 4, 2) := by decide +kernel
theorem dX4_deal_99 : decode cX4_deal 99 = .ok (.iaload, 1) := by decide +kernel
theorem dX4_deal_100 : decode cX4_deal 100 = .ok (.if_icmp .le 11, 3) := by decide +kernel
theorem dX4_deal_103 : decode cX4_deal 103 = .ok (.bipush 10, 2) := by decide +kernel
theorem dX4_deal_105 : decode cX4_deal 105 = .ok (.iload_n 3, 1) := by decide +kernel
theorem dX4_deal_106 : decode cX4_deal 106 = .ok (.imul, 1) := by decide +kernel
theorem dX4_deal_107 : decode cX4_deal 107 = .ok (.iload 4, 2) := by decide +kernel
theorem dX4_deal_109 : decode cX4_deal 109 = .ok (.iadd, 1) := by decide +kernel
theorem dX4_deal_110 : decode cX4_deal 110 = .ok (.ireturn, 1) := by decide +kernel
theorem dX4_deal_111 : decode cX4_deal 111 = .ok (.iinc 4 1, 3) := by decide +kernel
theorem dX4_deal_114 : decode cX4_deal 114 = .ok (.goto (-75), 3) := by decide +kernel
theorem dX4_deal_117 : decode cX4_deal 117 = .ok (.iinc 3 1, 3) := by decide +kernel
theorem dX4_deal_120 : decode cX4_deal 120 = .ok (.goto (-97), 3) := by decide +kernel
theorem dX4_deal_123 : decode cX4_deal 123 = .ok (.aload_n 0, 1) := by decide +kernel
theorem dX4_deal_124 : decode cX4_deal 124 = .ok (.ldc 137, 2) := by decide +kernel
theorem dX4_deal_126 : decode cX4_deal 126 = .ok (.invokevirtual 53, 3) := by decide +kernel
theorem dX4_deal_129 : decode cX4_deal 129 = .ok (.ireturn, 1) := by decide +kernel
theorem dX4_orders_0 : decode cX4_orders 0 = .ok (.iload_n 1, 1) := by decide +kernel
theorem dX4_orders_1 : decode cX4_orders 1 = .ok (.iconst 2, 1) := by decide +kernel
theorem dX4_orders_2 : decode cX4_orders 2 = .ok (.if_icmp .lt 19, 3) := by decide +kernel
theorem dX4_orders_5 : decode cX4_orders 5 = .ok (.iload_n 1, 1) := by decide +kernel
theorem dX4_orders_6 : decode cX4_orders 6 = .ok (.iconst 5, 1) := by decide +kernel
theorem dX4_orders_7 : decode cX4_orders 7 = .ok (.if_icmp .gt 14, 3) := by decide +kernel
theorem dX4_orders_10 : decode cX4_orders 10 = .ok (.iload_n 1, 1) := by decide +kernel
theorem dX4_orders_11 : decode cX4_orders 11 = .ok (.aload_n 0, 1) := by decide +kernel
theorem dX4_orders_12 : decode cX4_orders 12 = .ok (.getfield 12, 3) := by decide +kernel
theorem dX4_orders_15 : decode cX4_orders 15 = .ok (.getfield 57, 3) := by decide +kernel
theorem dX4_orders_18 : decode cX4_orders 18 = .ok (.if_icmp .le 10, 3) := by decide +kernel
theorem dX4_orders_21 : decode cX4_orders 21 = .ok (.aload_n 0, 1) := by decide +kernel
theorem dX4_orders_22 : decode cX4_orders 22 = .ok (.ldc 52, 2) := by decide +kernel
theorem dX4_orders_24 : decode cX4_orders 24 = .ok (.invokevirtual 53, 3) := by decide +kernel
theorem dX4_orders_27 : decode cX4_orders 27 = .ok (.ireturn, 1) := by decide +kernel
theorem dX4_orders_28 : decode cX4_orders 28 = .ok (.aload_n 0, 1) := by decide +kernel
theorem dX4_orders_29 : decode cX4_orders 29 = .ok (.iload_n 2, 1) := by decide +kernel
theorem dX4_orders_30 : decode cX4_orders 30 = .ok (.bipush 24, 2) := by decide +kernel
theorem dX4_orders_32 : decode cX4_orders 32 = .ok (.invokevirtual 92, 3) := by decide +kernel
theorem dX4_orders_35 : decode cX4_orders 35 = .ok (.istore_n 3, 1) := by decide +kernel
theorem dX4_orders_36 : decode cX4_orders 36 = .ok (.iload_n 3, 1) := by decide +kernel
theorem dX4_orders_37 : decode cX4_orders 37 = .ok (.ifCond .eq 9, 3) := by decide +kernel
theorem dX4_orders_40 : decode cX4_orders 40 = .ok (.aload_n 0, 1) := by decide +kernel
theorem dX4_orders_41 : decode cX4_orders 41 = .ok (.iload_n 3, 1) := by decide +kernel
theorem dX4_orders_42 : decode cX4_orders 42 = .ok (.invokevirtual 53, 3) := by decide +kernel
theorem dX4_orders_45 : decode cX4_orders 45 = .ok (.ireturn, 1) := by decide +kernel
theorem dX4_orders_46 : decode cX4_orders 46 = .ok (.iconst 1, 1) := by decide +kernel
theorem dX4_orders_47 : decode cX4_orders 47 = .ok (.istore 4, 2) := by decide +kernel
theorem dX4_orders_49 : decode cX4_orders 49 = .ok (.iconst 2, 1) := by decide +kernel
theorem dX4_orders_50 : decode cX4_orders 50 = .ok (.istore 5, 2) := by decide +kernel
theorem dX4_orders_52 : decode cX4_orders 52 = .ok (.iload 5, 2) := by decide +kernel
theorem dX4_orders_54 : decode cX4_orders 54 = .ok (.iload_n 1, 1) := by decide +kernel
theorem dX4_orders_55 : decode cX4_orders 55 = .ok (.if_icmp .gt 16, 3) := by decide +kernel
theorem dX4_orders_58 : decode cX4_orders 58 = .ok (.iload 4, 2) := by decide +kernel
theorem dX4_orders_60 : decode cX4_orders 60 = .ok (.iload 5, 2) := by decide +kernel
theorem dX4_orders_62 : decode cX4_orders 62 = .ok (.imul, 1) := by decide +kernel
theorem dX4_orders_63 : decode cX4_orders 63 = .ok (.istore 4, 2) := by decide +kernel
theorem dX4_orders_65 : decode cX4_orders 65 = .ok (.iinc 5 1, 3) := by decide +kernel
theorem dX4_orders_68 : decode cX4_orders 68 = .ok (.goto (-16), 3) := by decide +kernel
theorem dX4_orders_71 : decode cX4_orders 71 = .ok (.iconst 0, 1) := by decide +kernel
theorem dX4_orders_72 : decode cX4_orders 72 = .ok (.istore 5, 2) := by decide +kernel
theorem dX4_orders_74 : decode cX4_orders 74 = .ok (.iconst 0, 1) := by decide +kernel
theorem dX4_orders_75 : decode cX4_orders 75 = .ok (.istore 6, 2) := by decide +kernel
theorem dX4_orders_77 : decode cX4_orders 77 = .ok (.iload 6, 2) := by decide +kernel
theorem dX4_orders_79 : decode cX4_orders 79 = .ok (.iload 4, 2) := by decide +kernel
theorem dX4_orders_81 : decode cX4_orders 81 = .ok (.if_icmp .ge 42, 3) := by decide +kernel
theorem dX4_orders_84 : decode cX4_orders 84 = .ok (.aload_n 0, 1) := by decide +kernel
theorem dX4_orders_85 : decode cX4_orders 85 = .ok (.invokevirtual 120, 3) := by decide +kernel
theorem dX4_orders_88 : decode cX4_orders 88 = .ok (.aload_n 0, 1) := by decide +kernel
theorem dX4_orders_89 : decode cX4_orders 89 = .ok (.iload_n 1, 1) := by decide +kernel
theorem dX4_orders_90 : decode cX4_orders 90 = .ok (.iload 6, 2) := by decide +kernel
theorem dX4_orders_92 : decode cX4_orders 92 = .ok (.invokevirtual 186, 3) := by decide +kernel
theorem dX4_orders_95 : decode cX4_orders 95 = .ok (.aload_n 0, 1) := by decide +kernel
theorem dX4_orders_96 : decode cX4_orders 96 = .ok (.getfield 16, 3) := by decide +kernel
theorem dX4_orders_99 : decode cX4_orders 99 = .ok (.iload_n 2, 1) := by decide +kernel
theorem dX4_orders_100 : decode cX4_orders 100 = .ok (.invokevirtual 96, 3) := by decide +kernel
theorem dX4_orders_103 : decode cX4_orders 103 = .ok (.pop, 1) := by decide +kernel
theorem dX4_orders_104 : decode cX4_orders 104 = .ok (.aload_n 0, 1) := by decide +kernel
theorem dX4_orders_105 : decode cX4_orders 105 = .ok (.getfield 16, 3) := by decide +kernel
theorem dX4_orders_108 : decode cX4_orders 108 = .ok (.invokevirtual 102, 3) := by decide +kernel
theorem dX4_orders_111 : decode cX4_orders 111 = .ok (.ifCond .ne 6, 3) := by decide +kernel
theorem dX4_orders_114 : decode cX4_orders 114 = .ok (.iinc 5 1, 3) := by decide +kernel
theorem dX4_orders_117 : decode cX4_orders 117 = .ok (.iinc 6 1, 3) := by decide +kernel
theorem dX4_orders_120 : decode cX4_orders 120 = .ok (.goto (-43), 3) := by decide +kernel
theorem dX4_orders_123 : decode cX4_orders 123 = .ok (.iload 5, 2) := by decide +kernel
theorem dX4_orders_125 : decode cX4_orders 125 = .ok (.ireturn, 1) := by decide +kernel
theorem dX4_dealKinds_0 : decode cX4_dealKinds 0 = .ok (.iconst 1, 1) := by decide +kernel
theorem dX4_dealKinds_1 : decode cX4_dealKinds 1 = .ok (.iload_n 1, 1) := by decide +kernel
theorem dX4_dealKinds_2 : decode cX4_dealKinds 2 = .ok (.ishl, 1) := by decide +kernel
theorem dX4_dealKinds_3 : decode cX4_dealKinds 3 = .ok (.iconst 1, 1) := by decide +kernel
theorem dX4_dealKinds_4 : decode cX4_dealKinds 4 = .ok (.isub, 1) := by decide +kernel
theorem dX4_dealKinds_5 : decode cX4_dealKinds 5 = .ok (.istore_n 3, 1) := by decide +kernel
theorem dX4_dealKinds_6 : decode cX4_dealKinds 6 = .ok (.iload_n 2, 1) := by decide +kernel
theorem dX4_dealKinds_7 : decode cX4_dealKinds 7 = .ok (.istore 4, 2) := by decide +kernel
theorem dX4_dealKinds_9 : decode cX4_dealKinds 9 = .ok (.iconst 0, 1) := by decide +kernel
theorem dX4_dealKinds_10 : decode cX4_dealKinds 10 = .ok (.istore 5, 2) := by decide +kernel
theorem dX4_dealKinds_12 : decode cX4_dealKinds 12 = .ok (.iload 5, 2) := by decide +kernel
theorem dX4_dealKinds_14 : decode cX4_dealKinds 14 = .ok (.iload_n 1, 1) := by decide +kernel
theorem dX4_dealKinds_15 : decode cX4_dealKinds 15 = .ok (.if_icmp .ge 62, 3) := by decide +kernel
theorem dX4_dealKinds_18 : decode cX4_dealKinds 18 = .ok (.iload_n 1, 1) := by decide +kernel
theorem dX4_dealKinds_19 : decode cX4_dealKinds 19 = .ok (.iload 5, 2) := by decide +kernel
theorem dX4_dealKinds_21 : decode cX4_dealKinds 21 = .ok (.isub, 1) := by decide +kernel
theorem dX4_dealKinds_22 : decode cX4_dealKinds 22 = .ok (.istore 6, 2) := by decide +kernel
theorem dX4_dealKinds_24 : decode cX4_dealKinds 24 = .ok (.iload_n 3, 1) := by decide +kernel
theorem dX4_dealKinds_25 : decode cX4_dealKinds 25 = .ok (.iload 4, 2) := by decide +kernel
theorem dX4_dealKinds_27 : decode cX4_dealKinds 27 = .ok (.iload 6, 2) := by decide +kernel
theorem dX4_dealKinds_29 : decode cX4_dealKinds 29 = .ok (.irem, 1) := by decide +kernel
theorem dX4_dealKinds_30 : decode cX4_dealKinds 30 = .ok (.invokestatic 189, 3) := by decide +kernel
theorem dX4_dealKinds_33 : decode cX4_dealKinds 33 = .ok (.istore 7, 2) := by decide +kernel
theorem dX4_dealKinds_35 : decode cX4_dealKinds 35 = .ok (.iload 4, 2) := by decide +kernel
theorem dX4_dealKinds_37 : decode cX4_dealKinds 37 = .ok (.iload 6, 2) := by decide +kernel
theorem dX4_dealKinds_39 : decode cX4_dealKinds 39 = .ok (.idiv, 1) := by decide +kernel
theorem dX4_dealKinds_40 : decode cX4_dealKinds 40 = .ok (.istore 4, 2) := by decide +kernel
theorem dX4_dealKinds_42 : decode cX4_dealKinds 42 = .ok (.iload_n 3, 1) := by decide +kernel
theorem dX4_dealKinds_43 : decode cX4_dealKinds 43 = .ok (.iconst 1, 1) := by decide +kernel
theorem dX4_dealKinds_44 : decode cX4_dealKinds 44 = .ok (.iload 7, 2) := by decide +kernel
theorem dX4_dealKinds_46 : decode cX4_dealKinds 46 = .ok (.ishl, 1) := by decide +kernel
theorem dX4_dealKinds_47 : decode cX4_dealKinds 47 = .ok (.iconst (-1), 1) := by decide +kernel
theorem dX4_dealKinds_48 : decode cX4_dealKinds 48 = .ok (.ixor, 1) := by decide +kernel
theorem dX4_dealKinds_49 : decode cX4_dealKinds 49 = .ok (.iand, 1) := by decide +kernel
theorem dX4_dealKinds_50 : decode cX4_dealKinds 50 = .ok (.istore_n 3, 1) := by decide +kernel
theorem dX4_dealKinds_51 : decode cX4_dealKinds 51 = .ok (.aload_n 0, 1) := by decide +kernel
theorem dX4_dealKinds_52 : decode cX4_dealKinds 52 = .ok (.getfield 16, 3) := by decide +kernel
theorem dX4_dealKinds_55 : decode cX4_dealKinds 55 = .ok (.getfield 192, 3) := by decide +kernel
theorem dX4_dealKinds_58 : decode cX4_dealKinds 58 = .ok (.iload 5, 2) := by decide +kernel
theorem dX4_dealKinds_60 : decode cX4_dealKinds 60 = .ok (.aload_n 0, 1) := by decide +kernel
theorem dX4_dealKinds_61 : decode cX4_dealKinds 61 = .ok (.getfield 12, 3) := by decide +kernel
theorem dX4_dealKinds_64 : decode cX4_dealKinds 64 = .ok (.getfield 192, 3) := by decide +kernel
theorem dX4_dealKinds_67 : decode cX4_dealKinds 67 = .ok (.iload 7, 2) := by decide +kernel
theorem dX4_dealKinds_69 : decode cX4_dealKinds 69 = .ok (.iaload, 1) := by decide +kernel
theorem dX4_dealKinds_70 : decode cX4_dealKinds 70 = .ok (.iastore, 1) := by decide +kernel
theorem dX4_dealKinds_71 : decode cX4_dealKinds 71 = .ok (.iinc 5 1, 3) := by decide +kernel
theorem dX4_dealKinds_74 : decode cX4_dealKinds 74 = .ok (.goto (-62), 3) := by decide +kernel
theorem dX4_dealKinds_77 : decode cX4_dealKinds 77 = .ok (.return_, 1) := by decide +kernel
theorem dX4_memberOf_0 : decode cX4_memberOf 0 = .ok (.iconst 0, 1) := by decide +kernel
theorem dX4_memberOf_1 : decode cX4_memberOf 1 = .ok (.istore_n 2, 1) := by decide +kernel
theorem dX4_memberOf_2 : decode cX4_memberOf 2 = .ok (.iconst 0, 1) := by decide +kernel
theorem dX4_memberOf_3 : decode cX4_memberOf 3 = .ok (.istore_n 3, 1) := by decide +kernel
theorem dX4_memberOf_4 : decode cX4_memberOf 4 = .ok (.iload_n 3, 1) := by decide +kernel
theorem dX4_memberOf_5 : decode cX4_memberOf 5 = .ok (.bipush 8, 2) := by decide +kernel
theorem dX4_memberOf_7 : decode cX4_memberOf 7 = .ok (.if_icmp .ge 28, 3) := by decide +kernel
theorem dX4_memberOf_10 : decode cX4_memberOf 10 = .ok (.iload_n 0, 1) := by decide +kernel
theorem dX4_memberOf_11 : decode cX4_memberOf 11 = .ok (.iload_n 3, 1) := by decide +kernel
theorem dX4_memberOf_12 : decode cX4_memberOf 12 = .ok (.ishr, 1) := by decide +kernel
theorem dX4_memberOf_13 : decode cX4_memberOf 13 = .ok (.iconst 1, 1) := by decide +kernel
theorem dX4_memberOf_14 : decode cX4_memberOf 14 = .ok (.iand, 1) := by decide +kernel
theorem dX4_memberOf_15 : decode cX4_memberOf 15 = .ok (.iconst 1, 1) := by decide +kernel
theorem dX4_memberOf_16 : decode cX4_memberOf 16 = .ok (.if_icmp .ne 13, 3) := by decide +kernel
theorem dX4_memberOf_19 : decode cX4_memberOf 19 = .ok (.iload_n 2, 1) := by decide +kernel
theorem dX4_memberOf_20 : decode cX4_memberOf 20 = .ok (.iload_n 1, 1) := by decide +kernel
theorem dX4_memberOf_21 : decode cX4_memberOf 21 = .ok (.if_icmp .ne 5, 3) := by decide +kernel
theorem dX4_memberOf_24 : decode cX4_memberOf 24 = .ok (.iload_n 3, 1) := by decide +kernel
theorem dX4_memberOf_25 : decode cX4_memberOf 25 = .ok (.ireturn, 1) := by decide +kernel
theorem dX4_memberOf_26 : decode cX4_memberOf 26 = .ok (.iinc 2 1, 3) := by decide +kernel
theorem dX4_memberOf_29 : decode cX4_memberOf 29 = .ok (.iinc 3 1, 3) := by decide +kernel
theorem dX4_memberOf_32 : decode cX4_memberOf 32 = .ok (.goto (-28), 3) := by decide +kernel
theorem dX4_memberOf_35 : decode cX4_memberOf 35 = .ok (.iconst 0, 1) := by decide +kernel
theorem dX4_memberOf_36 : decode cX4_memberOf 36 = .ok (.ireturn, 1) := by decide +kernel
theorem dX4_coal_0 : decode cX4_coal 0 = .ok (.aload_n 0, 1) := by decide +kernel
theorem dX4_coal_1 : decode cX4_coal 1 = .ok (.iload_n 1, 1) := by decide +kernel
theorem dX4_coal_2 : decode cX4_coal 2 = .ok (.iload_n 2, 1) := by decide +kernel
theorem dX4_coal_3 : decode cX4_coal 3 = .ok (.invokevirtual 153, 3) := by decide +kernel
theorem dX4_coal_6 : decode cX4_coal 6 = .ok (.istore_n 3, 1) := by decide +kernel
theorem dX4_coal_7 : decode cX4_coal 7 = .ok (.iload_n 3, 1) := by decide +kernel
theorem dX4_coal_8 : decode cX4_coal 8 = .ok (.ifCond .ne 25, 3) := by decide +kernel
theorem dX4_coal_11 : decode cX4_coal 11 = .ok (.aload_n 0, 1) := by decide +kernel
theorem dX4_coal_12 : decode cX4_coal 12 = .ok (.getfield 12, 3) := by decide +kernel
theorem dX4_coal_15 : decode cX4_coal 15 = .ok (.aload_n 0, 1) := by decide +kernel
theorem dX4_coal_16 : decode cX4_coal 16 = .ok (.getfield 12, 3) := by decide +kernel
theorem dX4_coal_19 : decode cX4_coal 19 = .ok (.getfield 195, 3) := by decide +kernel
theorem dX4_coal_22 : decode cX4_coal 22 = .ok (.iload_n 1, 1) := by decide +kernel
theorem dX4_coal_23 : decode cX4_coal 23 = .ok (.iaload, 1) := by decide +kernel
theorem dX4_coal_24 : decode cX4_coal 24 = .ok (.invokevirtual 65, 3) := by decide +kernel
theorem dX4_coal_27 : decode cX4_coal 27 = .ok (.ifCond .ne 6, 3) := by decide +kernel
theorem dX4_coal_30 : decode cX4_coal 30 = .ok (.ldc 119, 2) := by decide +kernel
theorem dX4_coal_32 : decode cX4_coal 32 = .ok (.istore_n 3, 1) := by decide +kernel
theorem dX4_coal_33 : decode cX4_coal 33 = .ok (.iload_n 3, 1) := by decide +kernel
theorem dX4_coal_34 : decode cX4_coal 34 = .ok (.ifCond .eq 9, 3) := by decide +kernel
theorem dX4_coal_37 : decode cX4_coal 37 = .ok (.aload_n 0, 1) := by decide +kernel
theorem dX4_coal_38 : decode cX4_coal 38 = .ok (.iload_n 3, 1) := by decide +kernel
theorem dX4_coal_39 : decode cX4_coal 39 = .ok (.invokevirtual 53, 3) := by decide +kernel
theorem dX4_coal_42 : decode cX4_coal 42 = .ok (.ireturn, 1) := by decide +kernel
theorem dX4_coal_43 : decode cX4_coal 43 = .ok (.iconst 0, 1) := by decide +kernel
theorem dX4_coal_44 : decode cX4_coal 44 = .ok (.istore 4, 2) := by decide +kernel
theorem dX4_coal_46 : decode cX4_coal 46 = .ok (.iload 4, 2) := by decide +kernel
theorem dX4_coal_48 : decode cX4_coal 48 = .ok (.iconst 3, 1) := by decide +kernel
theorem dX4_coal_49 : decode cX4_coal 49 = .ok (.iload_n 2, 1) := by decide +kernel
theorem dX4_coal_50 : decode cX4_coal 50 = .ok (.imul, 1) := by decide +kernel
theorem dX4_coal_51 : decode cX4_coal 51 = .ok (.if_icmp .gt 43, 3) := by decide +kernel
theorem dX4_coal_54 : decode cX4_coal 54 = .ok (.aload_n 0, 1) := by decide +kernel
theorem dX4_coal_55 : decode cX4_coal 55 = .ok (.iload_n 1, 1) := by decide +kernel
theorem dX4_coal_56 : decode cX4_coal 56 = .ok (.iconst 2, 1) := by decide +kernel
theorem dX4_coal_57 : decode cX4_coal 57 = .ok (.iload 4, 2) := by decide +kernel
theorem dX4_coal_59 : decode cX4_coal 59 = .ok (.iload_n 2, 1) := by decide +kernel
theorem dX4_coal_60 : decode cX4_coal 60 = .ok (.invokevirtual 156, 3) := by decide +kernel
theorem dX4_coal_63 : decode cX4_coal 63 = .ok (.aload_n 0, 1) := by decide +kernel
theorem dX4_coal_64 : decode cX4_coal 64 = .ok (.getfield 16, 3) := by decide +kernel
theorem dX4_coal_67 : decode cX4_coal 67 = .ok (.getfield 113, 3) := by decide +kernel
theorem dX4_coal_70 : decode cX4_coal 70 = .ok (.aload_n 0, 1) := by decide +kernel
theorem dX4_coal_71 : decode cX4_coal 71 = .ok (.getfield 12, 3) := by decide +kernel
theorem dX4_coal_74 : decode cX4_coal 74 = .ok (.getfield 195, 3) := by decide +kernel
theorem dX4_coal_77 : decode cX4_coal 77 = .ok (.iload_n 1, 1) := by decide +kernel
theorem dX4_coal_78 : decode cX4_coal 78 = .ok (.iaload, 1) := by decide +kernel
theorem dX4_coal_79 : decode cX4_coal 79 = .ok (.iaload, 1) := by decide +kernel
theorem dX4_coal_80 : decode cX4_coal 80 = .ok (.bipush 60, 2) := by decide +kernel
theorem dX4_coal_82 : decode cX4_coal 82 = .ok (.if_icmp .lt 6, 3) := by decide +kernel
theorem dX4_coal_85 : decode cX4_coal 85 = .ok (.iload 4, 2) := by decide +kernel
theorem dX4_coal_87 : decode cX4_coal 87 = .ok (.ireturn, 1) := by decide +kernel
theorem dX4_coal_88 : decode cX4_coal 88 = .ok (.iinc 4 1, 3) := by decide +kernel
theorem dX4_coal_91 : decode cX4_coal 91 = .ok (.goto (-45), 3) := by decide +kernel
theorem dX4_coal_94 : decode cX4_coal 94 = .ok (.aload_n 0, 1) := by decide +kernel
theorem dX4_coal_95 : decode cX4_coal 95 = .ok (.ldc 137, 2) := by decide +kernel
theorem dX4_coal_97 : decode cX4_coal 97 = .ok (.invokevirtual 53, 3) := by decide +kernel
theorem dX4_coal_100 : decode cX4_coal 100 = .ok (.ireturn, 1) := by decide +kernel
theorem dX4_wall_0 : decode cX4_wall 0 = .ok (.aload_n 0, 1) := by decide +kernel
theorem dX4_wall_1 : decode cX4_wall 1 = .ok (.iload_n 1, 1) := by decide +kernel
theorem dX4_wall_2 : decode cX4_wall 2 = .ok (.iload_n 2, 1) := by decide +kernel
theorem dX4_wall_3 : decode cX4_wall 3 = .ok (.invokevirtual 153, 3) := by decide +kernel
theorem dX4_wall_6 : decode cX4_wall 6 = .ok (.istore_n 3, 1) := by decide +kernel
theorem dX4_wall_7 : decode cX4_wall 7 = .ok (.iload_n 3, 1) := by decide +kernel
theorem dX4_wall_8 : decode cX4_wall 8 = .ok (.ifCond .eq 9, 3) := by decide +kernel
theorem dX4_wall_11 : decode cX4_wall 11 = .ok (.aload_n 0, 1) := by decide +kernel
theorem dX4_wall_12 : decode cX4_wall 12 = .ok (.iload_n 3, 1) := by decide +kernel
theorem dX4_wall_13 : decode cX4_wall 13 = .ok (.invokevirtual 53, 3) := by decide +kernel
theorem dX4_wall_16 : decode cX4_wall 16 = .ok (.ireturn, 1) := by decide +kernel
theorem dX4_wall_17 : decode cX4_wall 17 = .ok (.getstatic 167, 3) := by decide +kernel
theorem dX4_wall_20 : decode cX4_wall 20 = .ok (.iconst 3, 1) := by decide +kernel
theorem dX4_wall_21 : decode cX4_wall 21 = .ok (.iaload, 1) := by decide +kernel
theorem dX4_wall_22 : decode cX4_wall 22 = .ok (.istore 4, 2) := by decide +kernel
theorem dX4_wall_24 : decode cX4_wall 24 = .ok (.iload 4, 2) := by decide +kernel
theorem dX4_wall_26 : decode cX4_wall 26 = .ok (.getstatic 170, 3) := by decide +kernel
theorem dX4_wall_29 : decode cX4_wall 29 = .ok (.iconst 3, 1) := by decide +kernel
theorem dX4_wall_30 : decode cX4_wall 30 = .ok (.iaload, 1) := by decide +kernel
theorem dX4_wall_31 : decode cX4_wall 31 = .ok (.if_icmp .gt 35, 3) := by decide +kernel
theorem dX4_wall_34 : decode cX4_wall 34 = .ok (.aload_n 0, 1) := by decide +kernel
theorem dX4_wall_35 : decode cX4_wall 35 = .ok (.iload_n 1, 1) := by decide +kernel
theorem dX4_wall_36 : decode cX4_wall 36 = .ok (.iconst 3, 1) := by decide +kernel
theorem dX4_wall_37 : decode cX4_wall 37 = .ok (.iload 4, 2) := by decide +kernel
theorem dX4_wall_39 : decode cX4_wall 39 = .ok (.iload_n 2, 1) := by decide +kernel
theorem dX4_wall_40 : decode cX4_wall 40 = .ok (.invokevirtual 156, 3) := by decide +kernel
theorem dX4_wall_43 : decode cX4_wall 43 = .ok (.aload_n 0, 1) := by decide +kernel
theorem dX4_wall_44 : decode cX4_wall 44 = .ok (.getfield 16, 3) := by decide +kernel
theorem dX4_wall_47 : decode cX4_wall 47 = .ok (.getfield 113, 3) := by decide +kernel
theorem dX4_wall_50 : decode cX4_wall 50 = .ok (.iload_n 1, 1) := by decide +kernel
theorem dX4_wall_51 : decode cX4_wall 51 = .ok (.iaload, 1) := by decide +kernel
theorem dX4_wall_52 : decode cX4_wall 52 = .ok (.bipush 60, 2) := by decide +kernel
theorem dX4_wall_54 : decode cX4_wall 54 = .ok (.if_icmp .lt 6, 3) := by decide +kernel
theorem dX4_wall_57 : decode cX4_wall 57 = .ok (.iload 4, 2) := by decide +kernel
theorem dX4_wall_59 : decode cX4_wall 59 = .ok (.ireturn, 1) := by decide +kernel
theorem dX4_wall_60 : decode cX4_wall 60 = .ok (.iinc 4 1, 3) := by decide +kernel
theorem dX4_wall_63 : decode cX4_wall 63 = .ok (.goto (-39), 3) := by decide +kernel
theorem dX4_wall_66 : decode cX4_wall 66 = .ok (.aload_n 0, 1) := by decide +kernel
theorem dX4_wall_67 : decode cX4_wall 67 = .ok (.ldc 137, 2) := by decide +kernel
theorem dX4_wall_69 : decode cX4_wall 69 = .ok (.invokevirtual 53, 3) := by decide +kernel
theorem dX4_wall_72 : decode cX4_wall 72 = .ok (.ireturn, 1) := by decide +kernel
theorem dX4_turn_0 : decode cX4_turn 0 = .ok (.aload_n 0, 1) := by decide +kernel
theorem dX4_turn_1 : decode cX4_turn 1 = .ok (.iload_n 1, 1) := by decide +kernel
theorem dX4_turn_2 : decode cX4_turn 2 = .ok (.iload_n 2, 1) := by decide +kernel
theorem dX4_turn_3 : decode cX4_turn 3 = .ok (.invokevirtual 153, 3) := by decide +kernel
theorem dX4_turn_6 : decode cX4_turn 6 = .ok (.istore_n 3, 1) := by decide +kernel
theorem dX4_turn_7 : decode cX4_turn 7 = .ok (.iload_n 3, 1) := by decide +kernel
theorem dX4_turn_8 : decode cX4_turn 8 = .ok (.ifCond .ne 17, 3) := by decide +kernel
theorem dX4_turn_11 : decode cX4_turn 11 = .ok (.aload_n 0, 1) := by decide +kernel
theorem dX4_turn_12 : decode cX4_turn 12 = .ok (.getfield 12, 3) := by decide +kernel
theorem dX4_turn_15 : decode cX4_turn 15 = .ok (.getfield 57, 3) := by decide +kernel
theorem dX4_turn_18 : decode cX4_turn 18 = .ok (.iconst 1, 1) := by decide +kernel
theorem dX4_turn_19 : decode cX4_turn 19 = .ok (.if_icmp .ne 6, 3) := by decide +kernel
theorem dX4_turn_22 : decode cX4_turn 22 = .ok (.ldc 119, 2) := by decide +kernel
theorem dX4_turn_24 : decode cX4_turn 24 = .ok (.istore_n 3, 1) := by decide +kernel
theorem dX4_turn_25 : decode cX4_turn 25 = .ok (.iload_n 3, 1) := by decide +kernel
theorem dX4_turn_26 : decode cX4_turn 26 = .ok (.ifCond .eq 9, 3) := by decide +kernel
theorem dX4_turn_29 : decode cX4_turn 29 = .ok (.aload_n 0, 1) := by decide +kernel
theorem dX4_turn_30 : decode cX4_turn 30 = .ok (.iload_n 3, 1) := by decide +kernel
theorem dX4_turn_31 : decode cX4_turn 31 = .ok (.invokevirtual 53, 3) := by decide +kernel
theorem dX4_turn_34 : decode cX4_turn 34 = .ok (.ireturn, 1) := by decide +kernel
theorem dX4_turn_35 : decode cX4_turn 35 = .ok (.iconst 0, 1) := by decide +kernel
theorem dX4_turn_36 : decode cX4_turn 36 = .ok (.istore 4, 2) := by decide +kernel
theorem dX4_turn_38 : decode cX4_turn 38 = .ok (.iconst (-1), 1) := by decide +kernel
theorem dX4_turn_39 : decode cX4_turn 39 = .ok (.istore 5, 2) := by decide +kernel
theorem dX4_turn_41 : decode cX4_turn 41 = .ok (.iconst 0, 1) := by decide +kernel
theorem dX4_turn_42 : decode cX4_turn 42 = .ok (.istore 6, 2) := by decide +kernel
theorem dX4_turn_44 : decode cX4_turn 44 = .ok (.iload 6, 2) := by decide +kernel
theorem dX4_turn_46 : decode cX4_turn 46 = .ok (.aload_n 0, 1) := by decide +kernel
theorem dX4_turn_47 : decode cX4_turn 47 = .ok (.getfield 12, 3) := by decide +kernel
theorem dX4_turn_50 : decode cX4_turn 50 = .ok (.getfield 57, 3) := by decide +kernel
theorem dX4_turn_53 : decode cX4_turn 53 = .ok (.if_icmp .ge 51, 3) := by decide +kernel
theorem dX4_turn_56 : decode cX4_turn 56 = .ok (.iload 6, 2) := by decide +kernel
theorem dX4_turn_58 : decode cX4_turn 58 = .ok (.iload_n 1, 1) := by decide +kernel
theorem dX4_turn_59 : decode cX4_turn 59 = .ok (.if_icmp .ne 6, 3) := by decide +kernel
theorem dX4_turn_62 : decode cX4_turn 62 = .ok (.goto 36, 3) := by decide +kernel
theorem dX4_turn_65 : decode cX4_turn 65 = .ok (.aload_n 0, 1) := by decide +kernel
theorem dX4_turn_66 : decode cX4_turn 66 = .ok (.iload_n 1, 1) := by decide +kernel
theorem dX4_turn_67 : decode cX4_turn 67 = .ok (.iconst 4, 1) := by decide +kernel
theorem dX4_turn_68 : decode cX4_turn 68 = .ok (.iload 6, 2) := by decide +kernel
theorem dX4_turn_70 : decode cX4_turn 70 = .ok (.iload_n 2, 1) := by decide +kernel
theorem dX4_turn_71 : decode cX4_turn 71 = .ok (.invokevirtual 156, 3) := by decide +kernel
theorem dX4_turn_74 : decode cX4_turn 74 = .ok (.aload_n 0, 1) := by decide +kernel
theorem dX4_turn_75 : decode cX4_turn 75 = .ok (.getfield 16, 3) := by decide +kernel
theorem dX4_turn_78 : decode cX4_turn 78 = .ok (.invokevirtual 123, 3) := by decide +kernel
theorem dX4_turn_81 : decode cX4_turn 81 = .ok (.istore 7, 2) := by decide +kernel
theorem dX4_turn_83 : decode cX4_turn 83 = .ok (.iload 7, 2) := by decide +kernel
theorem dX4_turn_85 : decode cX4_turn 85 = .ok (.iload 5, 2) := by decide +kernel
theorem dX4_turn_87 : decode cX4_turn 87 = .ok (.if_icmp .le 11, 3) := by decide +kernel
theorem dX4_turn_90 : decode cX4_turn 90 = .ok (.iload 7, 2) := by decide +kernel
theorem dX4_turn_92 : decode cX4_turn 92 = .ok (.istore 5, 2) := by decide +kernel
theorem dX4_turn_94 : decode cX4_turn 94 = .ok (.iload 6, 2) := by decide +kernel
theorem dX4_turn_96 : decode cX4_turn 96 = .ok (.istore 4, 2) := by decide +kernel
theorem dX4_turn_98 : decode cX4_turn 98 = .ok (.iinc 6 1, 3) := by decide +kernel
theorem dX4_turn_101 : decode cX4_turn 101 = .ok (.goto (-57), 3) := by decide +kernel
theorem dX4_turn_104 : decode cX4_turn 104 = .ok (.iload 4, 2) := by decide +kernel
theorem dX4_turn_106 : decode cX4_turn 106 = .ok (.ireturn, 1) := by decide +kernel
theorem dX4_damper_0 : decode cX4_damper 0 = .ok (.aload_n 0, 1) := by decide +kernel
theorem dX4_damper_1 : decode cX4_damper 1 = .ok (.iload_n 1, 1) := by decide +kernel
theorem dX4_damper_2 : decode cX4_damper 2 = .ok (.iload_n 2, 1) := by decide +kernel
theorem dX4_damper_3 : decode cX4_damper 3 = .ok (.invokevirtual 153, 3) := by decide +kernel
theorem dX4_damper_6 : decode cX4_damper 6 = .ok (.istore_n 3, 1) := by decide +kernel
theorem dX4_damper_7 : decode cX4_damper 7 = .ok (.iload_n 3, 1) := by decide +kernel
theorem dX4_damper_8 : decode cX4_damper 8 = .ok (.ifCond .eq 9, 3) := by decide +kernel
theorem dX4_damper_11 : decode cX4_damper 11 = .ok (.aload_n 0, 1) := by decide +kernel
theorem dX4_damper_12 : decode cX4_damper 12 = .ok (.iload_n 3, 1) := by decide +kernel
theorem dX4_damper_13 : decode cX4_damper 13 = .ok (.invokevirtual 53, 3) := by decide +kernel
theorem dX4_damper_16 : decode cX4_damper 16 = .ok (.ireturn, 1) := by decide +kernel
theorem dX4_damper_17 : decode cX4_damper 17 = .ok (.aload_n 0, 1) := by decide +kernel
theorem dX4_damper_18 : decode cX4_damper 18 = .ok (.iload_n 1, 1) := by decide +kernel
theorem dX4_damper_19 : decode cX4_damper 19 = .ok (.bipush 6, 2) := by decide +kernel
theorem dX4_damper_21 : decode cX4_damper 21 = .ok (.iload_n 2, 1) := by decide +kernel
theorem dX4_damper_22 : decode cX4_damper 22 = .ok (.invokevirtual 164, 3) := by decide +kernel
theorem dX4_damper_25 : decode cX4_damper 25 = .ok (.ireturn, 1) := by decide +kernel
theorem dX4_own_0 : decode cX4_own 0 = .ok (.aload_n 0, 1) := by decide +kernel
theorem dX4_own_1 : decode cX4_own 1 = .ok (.iload_n 1, 1) := by decide +kernel
theorem dX4_own_2 : decode cX4_own 2 = .ok (.bipush 60, 2) := by decide +kernel
theorem dX4_own_4 : decode cX4_own 4 = .ok (.invokevirtual 92, 3) := by decide +kernel
theorem dX4_own_7 : decode cX4_own 7 = .ok (.istore_n 2, 1) := by decide +kernel
theorem dX4_own_8 : decode cX4_own 8 = .ok (.iload_n 2, 1) := by decide +kernel
theorem dX4_own_9 : decode cX4_own 9 = .ok (.ifCond .eq 9, 3) := by decide +kernel
theorem dX4_own_12 : decode cX4_own 12 = .ok (.aload_n 0, 1) := by decide +kernel
theorem dX4_own_13 : decode cX4_own 13 = .ok (.iload_n 2, 1) := by decide +kernel
theorem dX4_own_14 : decode cX4_own 14 = .ok (.invokevirtual 53, 3) := by decide +kernel
theorem dX4_own_17 : decode cX4_own 17 = .ok (.ireturn, 1) := by decide +kernel
theorem dX4_own_18 : decode cX4_own 18 = .ok (.aload_n 0, 1) := by decide +kernel
theorem dX4_own_19 : decode cX4_own 19 = .ok (.iload_n 1, 1) := by decide +kernel
theorem dX4_own_20 : decode cX4_own 20 = .ok (.invokevirtual 141, 3) := by decide +kernel
theorem dX4_own_23 : decode cX4_own 23 = .ok (.aload_n 0, 1) := by decide +kernel
theorem dX4_own_24 : decode cX4_own 24 = .ok (.invokevirtual 120, 3) := by decide +kernel
theorem dX4_own_27 : decode cX4_own 27 = .ok (.iconst 0, 1) := by decide +kernel
theorem dX4_own_28 : decode cX4_own 28 = .ok (.istore_n 3, 1) := by decide +kernel
theorem dX4_own_29 : decode cX4_own 29 = .ok (.iload_n 3, 1) := by decide +kernel
theorem dX4_own_30 : decode cX4_own 30 = .ok (.aload_n 0, 1) := by decide +kernel
theorem dX4_own_31 : decode cX4_own 31 = .ok (.getfield 16, 3) := by decide +kernel
theorem dX4_own_34 : decode cX4_own 34 = .ok (.getfield 57, 3) := by decide +kernel
theorem dX4_own_37 : decode cX4_own 37 = .ok (.if_icmp .ge 19, 3) := by decide +kernel
theorem dX4_own_40 : decode cX4_own 40 = .ok (.aload_n 0, 1) := by decide +kernel
theorem dX4_own_41 : decode cX4_own 41 = .ok (.getfield 16, 3) := by decide +kernel
theorem dX4_own_44 : decode cX4_own 44 = .ok (.getfield 195, 3) := by decide +kernel
theorem dX4_own_47 : decode cX4_own 47 = .ok (.iload_n 3, 1) := by decide +kernel
theorem dX4_own_48 : decode cX4_own 48 = .ok (.iload_n 3, 1) := by decide +kernel
theorem dX4_own_49 : decode cX4_own 49 = .ok (.iastore, 1) := by decide +kernel
theorem dX4_own_50 : decode cX4_own 50 = .ok (.iinc 3 1, 3) := by decide +kernel
theorem dX4_own_53 : decode cX4_own 53 = .ok (.goto (-24), 3) := by decide +kernel
theorem dX4_own_56 : decode cX4_own 56 = .ok (.aload_n 0, 1) := by decide +kernel
theorem dX4_own_57 : decode cX4_own 57 = .ok (.getfield 16, 3) := by decide +kernel
theorem dX4_own_60 : decode cX4_own 60 = .ok (.iload_n 1, 1) := by decide +kernel
theorem dX4_own_61 : decode cX4_own 61 = .ok (.invokevirtual 96, 3) := by decide +kernel
theorem dX4_own_64 : decode cX4_own 64 = .ok (.pop, 1) := by decide +kernel
theorem dX4_own_65 : decode cX4_own 65 = .ok (.aload_n 0, 1) := by decide +kernel
theorem dX4_own_66 : decode cX4_own 66 = .ok (.getfield 16, 3) := by decide +kernel
theorem dX4_own_69 : decode cX4_own 69 = .ok (.aload_n 0, 1) := by decide +kernel
theorem dX4_own_70 : decode cX4_own 70 = .ok (.getfield 19, 3) := by decide +kernel
theorem dX4_own_73 : decode cX4_own 73 = .ok (.invokevirtual 160, 3) := by decide +kernel
theorem dX4_own_76 : decode cX4_own 76 = .ok (.ireturn, 1) := by decide +kernel
theorem dX4_culprits_0 : decode cX4_culprits 0 = .ok (.iconst 0, 1) := by decide +kernel
theorem dX4_culprits_1 : decode cX4_culprits 1 = .ok (.istore_n 1, 1) := by decide +kernel
theorem dX4_culprits_2 : decode cX4_culprits 2 = .ok (.iconst 0, 1) := by decide +kernel
theorem dX4_culprits_3 : decode cX4_culprits 3 = .ok (.istore_n 2, 1) := by decide +kernel
theorem dX4_culprits_4 : decode cX4_culprits 4 = .ok (.iload_n 2, 1) := by decide +kernel
theorem dX4_culprits_5 : decode cX4_culprits 5 = .ok (.iconst 1, 1) := by decide +kernel
theorem dX4_culprits_6 : decode cX4_culprits 6 = .ok (.aload_n 0, 1) := by decide +kernel
theorem dX4_culprits_7 : decode cX4_culprits 7 = .ok (.getfield 12, 3) := by decide +kernel
theorem dX4_culprits_10 : decode cX4_culprits 10 = .ok (.getfield 57, 3) := by decide +kernel
theorem dX4_culprits_13 : decode cX4_culprits 13 = .ok (.ishl, 1) := by decide +kernel
theorem dX4_culprits_14 : decode cX4_culprits 14 = .ok (.if_icmp .ge 23, 3) := by decide +kernel
theorem dX4_culprits_17 : decode cX4_culprits 17 = .ok (.aload_n 0, 1) := by decide +kernel
theorem dX4_culprits_18 : decode cX4_culprits 18 = .ok (.getfield 12, 3) := by decide +kernel
theorem dX4_culprits_21 : decode cX4_culprits 21 = .ok (.iload_n 2, 1) := by decide +kernel
theorem dX4_culprits_22 : decode cX4_culprits 22 = .ok (.invokevirtual 198, 3) := by decide +kernel
theorem dX4_culprits_25 : decode cX4_culprits 25 = .ok (.ifCond .eq 6, 3) := by decide +kernel
theorem dX4_culprits_28 : decode cX4_culprits 28 = .ok (.iinc 1 1, 3) := by decide +kernel
theorem dX4_culprits_31 : decode cX4_culprits 31 = .ok (.iinc 2 1, 3) := by decide +kernel
theorem dX4_culprits_34 : decode cX4_culprits 34 = .ok (.goto (-30), 3) := by decide +kernel
theorem dX4_culprits_37 : decode cX4_culprits 37 = .ok (.iload_n 1, 1) := by decide +kernel
theorem dX4_culprits_38 : decode cX4_culprits 38 = .ok (.ireturn, 1) := by decide +kernel
theorem dX4_surely_0 : decode cX4_surely 0 = .ok (.iload_n 1, 1) := by decide +kernel
theorem dX4_surely_1 : decode cX4_surely 1 = .ok (.ifCond .lt 8, 3) := by decide +kernel
theorem dX4_surely_4 : decode cX4_surely 4 = .ok (.iload_n 1, 1) := by decide +kernel
theorem dX4_surely_5 : decode cX4_surely 5 = .ok (.iconst 2, 1) := by decide +kernel
theorem dX4_surely_6 : decode cX4_surely 6 = .ok (.if_icmp .le 10, 3) := by decide +kernel
theorem dX4_surely_9 : decode cX4_surely 9 = .ok (.aload_n 0, 1) := by decide +kernel
theorem dX4_surely_10 : decode cX4_surely 10 = .ok (.ldc 52, 2) := by decide +kernel
theorem dX4_surely_12 : decode cX4_surely 12 = .ok (.invokevirtual 53, 3) := by decide +kernel
theorem dX4_surely_15 : decode cX4_surely 15 = .ok (.ireturn, 1) := by decide +kernel
theorem dX4_surely_16 : decode cX4_surely 16 = .ok (.iconst (-1), 1) := by decide +kernel
theorem dX4_surely_17 : decode cX4_surely 17 = .ok (.istore_n 2, 1) := by decide +kernel
theorem dX4_surely_18 : decode cX4_surely 18 = .ok (.iconst 0, 1) := by decide +kernel
theorem dX4_surely_19 : decode cX4_surely 19 = .ok (.istore_n 3, 1) := by decide +kernel
theorem dX4_surely_20 : decode cX4_surely 20 = .ok (.iconst (-1), 1) := by decide +kernel
theorem dX4_surely_21 : decode cX4_surely 21 = .ok (.istore 4, 2) := by decide +kernel
theorem dX4_surely_23 : decode cX4_surely 23 = .ok (.iconst 0, 1) := by decide +kernel
theorem dX4_surely_24 : decode cX4_surely 24 = .ok (.istore 5, 2) := by decide +kernel
theorem dX4_surely_26 : decode cX4_surely 26 = .ok (.iload 5, 2) := by decide +kernel
theorem dX4_surely_28 : decode cX4_surely 28 = .ok (.iconst 1, 1) := by decide +kernel
theorem dX4_surely_29 : decode cX4_surely 29 = .ok (.aload_n 0, 1) := by decide +kernel
theorem dX4_surely_30 : decode cX4_surely 30 = .ok (.getfield 12, 3) := by decide +kernel
theorem dX4_surely_33 : decode cX4_surely 33 = .ok (.getfield 57, 3) := by decide +kernel
theorem dX4_surely_36 : decode cX4_surely 36 = .ok (.ishl, 1) := by decide +kernel
theorem dX4_surely_37 : decode cX4_surely 37 = .ok (.if_icmp .ge 45, 3) := by decide +kernel
theorem dX4_surely_40 : decode cX4_surely 40 = .ok (.aload_n 0, 1) := by decide +kernel
theorem dX4_surely_41 : decode cX4_surely 41 = .ok (.getfield 12, 3) := by decide +kernel
theorem dX4_surely_44 : decode cX4_surely 44 = .ok (.iload 5, 2) := by decide +kernel
theorem dX4_surely_46 : decode cX4_surely 46 = .ok (.invokevirtual 198, 3) := by decide +kernel
theorem dX4_surely_49 : decode cX4_surely 49 = .ok (.ifCond .eq 27, 3) := by decide +kernel
theorem dX4_surely_52 : decode cX4_surely 52 = .ok (.iload_n 2, 1) := by decide +kernel
theorem dX4_surely_53 : decode cX4_surely 53 = .ok (.iload 5, 2) := by decide +kernel
theorem dX4_surely_55 : decode cX4_surely 55 = .ok (.iand, 1) := by decide +kernel
theorem dX4_surely_56 : decode cX4_surely 56 = .ok (.istore_n 2, 1) := by decide +kernel
theorem dX4_surely_57 : decode cX4_surely 57 = .ok (.iload_n 3, 1) := by decide +kernel
theorem dX4_surely_58 : decode cX4_surely 58 = .ok (.iload 5, 2) := by decide +kernel
theorem dX4_surely_60 : decode cX4_surely 60 = .ok (.ior, 1) := by decide +kernel
theorem dX4_surely_61 : decode cX4_surely 61 = .ok (.istore_n 3, 1) := by decide +kernel
theorem dX4_surely_62 : decode cX4_surely 62 = .ok (.iload 4, 2) := by decide +kernel
theorem dX4_surely_64 : decode cX4_surely 64 = .ok (.ifCond .ge 8, 3) := by decide +kernel
theorem dX4_surely_67 : decode cX4_surely 67 = .ok (.iload 5, 2) := by decide +kernel
theorem dX4_surely_69 : decode cX4_surely 69 = .ok (.goto 5, 3) := by decide +kernel
theorem dX4_surely_72 : decode cX4_surely 72 = .ok (.iload 4, 2) := by decide +kernel
theorem dX4_surely_74 : decode cX4_surely 74 = .ok (.istore 4, 2) := by decide +kernel
theorem dX4_surely_76 : decode cX4_surely 76 = .ok (.iinc 5 1, 3) := by decide +kernel
theorem dX4_surely_79 : decode cX4_surely 79 = .ok (.goto (-53), 3) := by decide +kernel
theorem dX4_surely_82 : decode cX4_surely 82 = .ok (.iload 4, 2) := by decide +kernel
theorem dX4_surely_84 : decode cX4_surely 84 = .ok (.ifCond .ge 10, 3) := by decide +kernel
theorem dX4_surely_87 : decode cX4_surely 87 = .ok (.aload_n 0, 1) := by decide +kernel
theorem dX4_surely_88 : decode cX4_surely 88 = .ok (.ldc 137, 2) := by decide +kernel
theorem dX4_surely_90 : decode cX4_surely 90 = .ok (.invokevirtual 53, 3) := by decide +kernel
theorem dX4_surely_93 : decode cX4_surely 93 = .ok (.ireturn, 1) := by decide +kernel
theorem dX4_surely_94 : decode cX4_surely 94 = .ok (.iload_n 1, 1) := by decide +kernel
theorem dX4_surely_95 : decode cX4_surely 95 = .ok (.ifCond .ne 7, 3) := by decide +kernel
theorem dX4_surely_98 : decode cX4_surely 98 = .ok (.iload_n 2, 1) := by decide +kernel
theorem dX4_surely_99 : decode cX4_surely 99 = .ok (.goto 14, 3) := by decide +kernel
theorem dX4_surely_102 : decode cX4_surely 102 = .ok (.iload_n 1, 1) := by decide +kernel
theorem dX4_surely_103 : decode cX4_surely 103 = .ok (.iconst 1, 1) := by decide +kernel
theorem dX4_surely_104 : decode cX4_surely 104 = .ok (.if_icmp .ne 7, 3) := by decide +kernel
theorem dX4_surely_107 : decode cX4_surely 107 = .ok (.iload_n 3, 1) := by decide +kernel
theorem dX4_surely_108 : decode cX4_surely 108 = .ok (.goto 5, 3) := by decide +kernel
theorem dX4_surely_111 : decode cX4_surely 111 = .ok (.iload 4, 2) := by decide +kernel
theorem dX4_surely_113 : decode cX4_surely 113 = .ok (.ireturn, 1) := by decide +kernel
theorem dX4_travel_0 : decode cX4_travel 0 = .ok (.iload_n 1, 1) := by decide +kernel
theorem dX4_travel_1 : decode cX4_travel 1 = .ok (.iconst 1, 1) := by decide +kernel
theorem dX4_travel_2 : decode cX4_travel 2 = .ok (.if_icmp .lt 9, 3) := by decide +kernel
theorem dX4_travel_5 : decode cX4_travel 5 = .ok (.iload_n 1, 1) := by decide +kernel
theorem dX4_travel_6 : decode cX4_travel 6 = .ok (.bipush 12, 2) := by decide +kernel
theorem dX4_travel_8 : decode cX4_travel 8 = .ok (.if_icmp .le 10, 3) := by decide +kernel
theorem dX4_travel_11 : decode cX4_travel 11 = .ok (.aload_n 0, 1) := by decide +kernel
theorem dX4_travel_12 : decode cX4_travel 12 = .ok (.ldc 52, 2) := by decide +kernel
theorem dX4_travel_14 : decode cX4_travel 14 = .ok (.invokevirtual 53, 3) := by decide +kernel
theorem dX4_travel_17 : decode cX4_travel 17 = .ok (.ireturn, 1) := by decide +kernel
theorem dX4_travel_18 : decode cX4_travel 18 = .ok (.aload_n 0, 1) := by decide +kernel
theorem dX4_travel_19 : decode cX4_travel 19 = .ok (.getfield 12, 3) := by decide +kernel
theorem dX4_travel_22 : decode cX4_travel 22 = .ok (.getfield 57, 3) := by decide +kernel
theorem dX4_travel_25 : decode cX4_travel 25 = .ok (.ifCond .ne 10, 3) := by decide +kernel
theorem dX4_travel_28 : decode cX4_travel 28 = .ok (.aload_n 0, 1) := by decide +kernel
theorem dX4_travel_29 : decode cX4_travel 29 = .ok (.ldc 119, 2) := by decide +kernel
theorem dX4_travel_31 : decode cX4_travel 31 = .ok (.invokevirtual 53, 3) := by decide +kernel
theorem dX4_travel_34 : decode cX4_travel 34 = .ok (.ireturn, 1) := by decide +kernel
theorem dX4_travel_35 : decode cX4_travel 35 = .ok (.iconst 0, 1) := by decide +kernel
theorem dX4_travel_36 : decode cX4_travel 36 = .ok (.istore_n 2, 1) := by decide +kernel
theorem dX4_travel_37 : decode cX4_travel 37 = .ok (.iload_n 2, 1) := by decide +kernel
theorem dX4_travel_38 : decode cX4_travel 38 = .ok (.iload_n 1, 1) := by decide +kernel
theorem dX4_travel_39 : decode cX4_travel 39 = .ok (.if_icmp .ge 45, 3) := by decide +kernel
theorem dX4_travel_42 : decode cX4_travel 42 = .ok (.aload_n 0, 1) := by decide +kernel
theorem dX4_travel_43 : decode cX4_travel 43 = .ok (.getfield 12, 3) := by decide +kernel
theorem dX4_travel_46 : decode cX4_travel 46 = .ok (.invokevirtual 201, 3) := by decide +kernel
theorem dX4_travel_49 : decode cX4_travel 49 = .ok (.aload_n 0, 1) := by decide +kernel
theorem dX4_travel_50 : decode cX4_travel 50 = .ok (.getfield 12, 3) := by decide +kernel
theorem dX4_travel_53 : decode cX4_travel 53 = .ok (.getfield 57, 3) := by decide +kernel
theorem dX4_travel_56 : decode cX4_travel 56 = .ok (.irem, 1) := by decide +kernel
theorem dX4_travel_57 : decode cX4_travel 57 = .ok (.istore_n 3, 1) := by decide +kernel
theorem dX4_travel_58 : decode cX4_travel 58 = .ok (.aload_n 0, 1) := by decide +kernel
theorem dX4_travel_59 : decode cX4_travel 59 = .ok (.getfield 12, 3) := by decide +kernel
theorem dX4_travel_62 : decode cX4_travel 62 = .ok (.getfield 204, 3) := by decide +kernel
theorem dX4_travel_65 : decode cX4_travel 65 = .ok (.iload_n 3, 1) := by decide +kernel
theorem dX4_travel_66 : decode cX4_travel 66 = .ok (.iconst 1, 1) := by decide +kernel
theorem dX4_travel_67 : decode cX4_travel 67 = .ok (.aload_n 0, 1) := by decide +kernel
theorem dX4_travel_68 : decode cX4_travel 68 = .ok (.getfield 12, 3) := by decide +kernel
theorem dX4_travel_71 : decode cX4_travel 71 = .ok (.getfield 204, 3) := by decide +kernel
theorem dX4_travel_74 : decode cX4_travel 74 = .ok (.iload_n 3, 1) := by decide +kernel
theorem dX4_travel_75 : decode cX4_travel 75 = .ok (.iaload, 1) := by decide +kernel
theorem dX4_travel_76 : decode cX4_travel 76 = .ok (.isub, 1) := by decide +kernel
theorem dX4_travel_77 : decode cX4_travel 77 = .ok (.iastore, 1) := by decide +kernel
theorem dX4_travel_78 : decode cX4_travel 78 = .ok (.iinc 2 1, 3) := by decide +kernel
theorem dX4_travel_81 : decode cX4_travel 81 = .ok (.goto (-44), 3) := by decide +kernel
theorem dX4_travel_84 : decode cX4_travel 84 = .ok (.aload_n 0, 1) := by decide +kernel
theorem dX4_travel_85 : decode cX4_travel 85 = .ok (.getfield 12, 3) := by decide +kernel
theorem dX4_travel_88 : decode cX4_travel 88 = .ok (.invokevirtual 207, 3) := by decide +kernel
theorem dX4_travel_91 : decode cX4_travel 91 = .ok (.ireturn, 1) := by decide +kernel
theorem dX4_seed_0 : decode cX4_seed 0 = .ok (.aload_n 0, 1) := by decide +kernel
theorem dX4_seed_1 : decode cX4_seed 1 = .ok (.getfield 12, 3) := by decide +kernel
theorem dX4_seed_4 : decode cX4_seed 4 = .ok (.getfield 210, 3) := by decide +kernel
theorem dX4_seed_7 : decode cX4_seed 7 = .ok (.istore_n 2, 1) := by decide +kernel
theorem dX4_seed_8 : decode cX4_seed 8 = .ok (.aload_n 0, 1) := by decide +kernel
theorem dX4_seed_9 : decode cX4_seed 9 = .ok (.getfield 12, 3) := by decide +kernel
theorem dX4_seed_12 : decode cX4_seed 12 = .ok (.iload_n 1, 1) := by decide +kernel
theorem dX4_seed_13 : decode cX4_seed 13 = .ok (.putfield 210, 3) := by decide +kernel
theorem dX4_seed_16 : decode cX4_seed 16 = .ok (.iload_n 2, 1) := by decide +kernel
theorem dX4_seed_17 : decode cX4_seed 17 = .ok (.ireturn, 1) := by decide +kernel
theorem dX4_feed_0 : decode cX4_feed 0 = .ok (.iload_n 2, 1) := by decide +kernel
theorem dX4_feed_1 : decode cX4_feed 1 = .ok (.iconst 1, 1) := by decide +kernel
theorem dX4_feed_2 : decode cX4_feed 2 = .ok (.if_icmp .lt 8, 3) := by decide +kernel
theorem dX4_feed_5 : decode cX4_feed 5 = .ok (.iload_n 2, 1) := by decide +kernel
theorem dX4_feed_6 : decode cX4_feed 6 = .ok (.iconst 4, 1) := by decide +kernel
theorem dX4_feed_7 : decode cX4_feed 7 = .ok (.if_icmp .le 10, 3) := by decide +kernel
theorem dX4_feed_10 : decode cX4_feed 10 = .ok (.aload_n 0, 1) := by decide +kernel
theorem dX4_feed_11 : decode cX4_feed 11 = .ok (.ldc 52, 2) := by decide +kernel
theorem dX4_feed_13 : decode cX4_feed 13 = .ok (.invokevirtual 53, 3) := by decide +kernel
theorem dX4_feed_16 : decode cX4_feed 16 = .ok (.ireturn, 1) := by decide +kernel
theorem dX4_feed_17 : decode cX4_feed 17 = .ok (.aload_n 0, 1) := by decide +kernel
theorem dX4_feed_18 : decode cX4_feed 18 = .ok (.getfield 36, 3) := by decide +kernel
theorem dX4_feed_21 : decode cX4_feed 21 = .ok (.getfield 213, 3) := by decide +kernel
theorem dX4_feed_24 : decode cX4_feed 24 = .ok (.iload_n 2, 1) := by decide +kernel
theorem dX4_feed_25 : decode cX4_feed 25 = .ok (.iadd, 1) := by decide +kernel
theorem dX4_feed_26 : decode cX4_feed 26 = .ok (.bipush 120, 2) := by decide +kernel
theorem dX4_feed_28 : decode cX4_feed 28 = .ok (.if_icmp .le 10, 3) := by decide +kernel
theorem dX4_feed_31 : decode cX4_feed 31 = .ok (.aload_n 0, 1) := by decide +kernel
theorem dX4_feed_32 : decode cX4_feed 32 = .ok (.ldc 61, 2) := by decide +kernel
theorem dX4_feed_34 : decode cX4_feed 34 = .ok (.invokevirtual 53, 3) := by decide +kernel
theorem dX4_feed_37 : decode cX4_feed 37 = .ok (.ireturn, 1) := by decide +kernel
theorem dX4_feed_38 : decode cX4_feed 38 = .ok (.aload_n 0, 1) := by decide +kernel
theorem dX4_feed_39 : decode cX4_feed 39 = .ok (.getfield 36, 3) := by decide +kernel
theorem dX4_feed_42 : decode cX4_feed 42 = .ok (.iload_n 1, 1) := by decide +kernel
theorem dX4_feed_43 : decode cX4_feed 43 = .ok (.iload_n 2, 1) := by decide +kernel
theorem dX4_feed_44 : decode cX4_feed 44 = .ok (.invokevirtual 218, 3) := by decide +kernel
theorem dX4_feed_47 : decode cX4_feed 47 = .ok (.aload_n 0, 1) := by decide +kernel
theorem dX4_feed_48 : decode cX4_feed 48 = .ok (.getfield 36, 3) := by decide +kernel
theorem dX4_feed_51 : decode cX4_feed 51 = .ok (.getfield 213, 3) := by decide +kernel
theorem dX4_feed_54 : decode cX4_feed 54 = .ok (.ireturn, 1) := by decide +kernel
theorem dX4_wipe_0 : decode cX4_wipe 0 = .ok (.aload_n 0, 1) := by decide +kernel
theorem dX4_wipe_1 : decode cX4_wipe 1 = .ok (.getfield 36, 3) := by decide +kernel
theorem dX4_wipe_4 : decode cX4_wipe 4 = .ok (.getfield 213, 3) := by decide +kernel
theorem dX4_wipe_7 : decode cX4_wipe 7 = .ok (.istore_n 1, 1) := by decide +kernel
theorem dX4_wipe_8 : decode cX4_wipe 8 = .ok (.aload_n 0, 1) := by decide +kernel
theorem dX4_wipe_9 : decode cX4_wipe 9 = .ok (.getfield 36, 3) := by decide +kernel
theorem dX4_wipe_12 : decode cX4_wipe 12 = .ok (.iconst 0, 1) := by decide +kernel
theorem dX4_wipe_13 : decode cX4_wipe 13 = .ok (.putfield 213, 3) := by decide +kernel
theorem dX4_wipe_16 : decode cX4_wipe 16 = .ok (.iload_n 1, 1) := by decide +kernel
theorem dX4_wipe_17 : decode cX4_wipe 17 = .ok (.ireturn, 1) := by decide +kernel
theorem dX4_text_0 : decode cX4_text 0 = .ok (.aload_n 0, 1) := by decide +kernel
theorem dX4_text_1 : decode cX4_text 1 = .ok (.getfield 28, 3) := by decide +kernel
theorem dX4_text_4 : decode cX4_text 4 = .ok (.aload_n 0, 1) := by decide +kernel
theorem dX4_text_5 : decode cX4_text 5 = .ok (.getfield 12, 3) := by decide +kernel
theorem dX4_text_8 : decode cX4_text 8 = .ok (.invokevirtual 221, 3) := by decide +kernel
theorem dX4_text_11 : decode cX4_text 11 = .ok (.istore_n 1, 1) := by decide +kernel
theorem dX4_text_12 : decode cX4_text 12 = .ok (.aload_n 0, 1) := by decide +kernel
theorem dX4_text_13 : decode cX4_text 13 = .ok (.getfield 36, 3) := by decide +kernel
theorem dX4_text_16 : decode cX4_text 16 = .ok (.iconst 0, 1) := by decide +kernel
theorem dX4_text_17 : decode cX4_text 17 = .ok (.putfield 213, 3) := by decide +kernel
theorem dX4_text_20 : decode cX4_text 20 = .ok (.iload_n 1, 1) := by decide +kernel
theorem dX4_text_21 : decode cX4_text 21 = .ok (.ireturn, 1) := by decide +kernel
theorem dX4_hold_0 : decode cX4_hold 0 = .ok (.iload_n 1, 1) := by decide +kernel
theorem dX4_hold_1 : decode cX4_hold 1 = .ok (.invokestatic 224, 3) := by decide +kernel
theorem dX4_hold_4 : decode cX4_hold 4 = .ok (.ifCond .eq 19, 3) := by decide +kernel
theorem dX4_hold_7 : decode cX4_hold 7 = .ok (.iload_n 2, 1) := by decide +kernel
theorem dX4_hold_8 : decode cX4_hold 8 = .ok (.iconst (-1), 1) := by decide +kernel
theorem dX4_hold_9 : decode cX4_hold 9 = .ok (.if_icmp .eq 21, 3) := by decide +kernel
theorem dX4_hold_12 : decode cX4_hold 12 = .ok (.aload_n 0, 1) := by decide +kernel
theorem dX4_hold_13 : decode cX4_hold 13 = .ok (.getfield 12, 3) := by decide +kernel
theorem dX4_hold_16 : decode cX4_hold 16 = .ok (.iload_n 2, 1) := by decide +kernel
theorem dX4_hold_17 : decode cX4_hold 17 = .ok (.invokevirtual 65, 3) := by decide +kernel
theorem dX4_hold_20 : decode cX4_hold 20 = .ok (.ifCond .ne 10, 3) := by decide +kernel
theorem dX4_hold_23 : decode cX4_hold 23 = .ok (.aload_n 0, 1) := by decide +kernel
theorem dX4_hold_24 : decode cX4_hold 24 = .ok (.ldc 52, 2) := by decide +kernel
theorem dX4_hold_26 : decode cX4_hold 26 = .ok (.invokevirtual 53, 3) := by decide +kernel
theorem dX4_hold_29 : decode cX4_hold 29 = .ok (.ireturn, 1) := by decide +kernel
theorem dX4_hold_30 : decode cX4_hold 30 = .ok (.aload_n 0, 1) := by decide +kernel
theorem dX4_hold_31 : decode cX4_hold 31 = .ok (.getfield 12, 3) := by decide +kernel
theorem dX4_hold_34 : decode cX4_hold 34 = .ok (.getfield 227, 3) := by decide +kernel
theorem dX4_hold_37 : decode cX4_hold 37 = .ok (.iload_n 1, 1) := by decide +kernel
theorem dX4_hold_38 : decode cX4_hold 38 = .ok (.iload_n 2, 1) := by decide +kernel
theorem dX4_hold_39 : decode cX4_hold 39 = .ok (.iastore, 1) := by decide +kernel
theorem dX4_hold_40 : decode cX4_hold 40 = .ok (.iconst 1, 1) := by decide +kernel
theorem dX4_hold_41 : decode cX4_hold 41 = .ok (.ireturn, 1) := by decide +kernel
theorem dX4_as_0 : decode cX4_as 0 = .ok (.iload_n 1, 1) := by decide +kernel
theorem dX4_as_1 : decode cX4_as 1 = .ok (.invokestatic 224, 3) := by decide +kernel
theorem dX4_as_4 : decode cX4_as 4 = .ok (.ifCond .eq 10, 3) := by decide +kernel
theorem dX4_as_7 : decode cX4_as 7 = .ok (.iload_n 2, 1) := by decide +kernel
theorem dX4_as_8 : decode cX4_as 8 = .ok (.invokestatic 48, 3) := by decide +kernel
theorem dX4_as_11 : decode cX4_as 11 = .ok (.ifCond .ne 10, 3) := by decide +kernel
theorem dX4_as_14 : decode cX4_as 14 = .ok (.aload_n 0, 1) := by decide +kernel
theorem dX4_as_15 : decode cX4_as 15 = .ok (.ldc 52, 2) := by decide +kernel
theorem dX4_as_17 : decode cX4_as 17 = .ok (.invokevirtual 53, 3) := by decide +kernel
theorem dX4_as_20 : decode cX4_as 20 = .ok (.ireturn, 1) := by decide +kernel
theorem dX4_as_21 : decode cX4_as 21 = .ok (.aload_n 0, 1) := by decide +kernel
theorem dX4_as_22 : decode cX4_as 22 = .ok (.getfield 12, 3) := by decide +kernel
theorem dX4_as_25 : decode cX4_as 25 = .ok (.getfield 227, 3) := by decide +kernel
theorem dX4_as_28 : decode cX4_as 28 = .ok (.iload_n 1, 1) := by decide +kernel
theorem dX4_as_29 : decode cX4_as 29 = .ok (.iaload, 1) := by decide +kernel
theorem dX4_as_30 : decode cX4_as 30 = .ok (.istore_n 3, 1) := by decide +kernel
theorem dX4_as_31 : decode cX4_as 31 = .ok (.aload_n 0, 1) := by decide +kernel
theorem dX4_as_32 : decode cX4_as 32 = .ok (.getfield 12, 3) := by decide +kernel
theorem dX4_as_35 : decode cX4_as 35 = .ok (.iload_n 3, 1) := by decide +kernel
theorem dX4_as_36 : decode cX4_as 36 = .ok (.invokevirtual 65, 3) := by decide +kernel
theorem dX4_as_39 : decode cX4_as 39 = .ok (.ifCond .ne 10, 3) := by decide +kernel
theorem dX4_as_42 : decode cX4_as 42 = .ok (.aload_n 0, 1) := by decide +kernel
theorem dX4_as_43 : decode cX4_as 43 = .ok (.ldc 230, 2) := by decide +kernel
theorem dX4_as_45 : decode cX4_as 45 = .ok (.invokevirtual 53, 3) := by decide +kernel
theorem dX4_as_48 : decode cX4_as 48 = .ok (.ireturn, 1) := by decide +kernel
theorem dX4_as_49 : decode cX4_as 49 = .ok (.aload_n 0, 1) := by decide +kernel
theorem dX4_as_50 : decode cX4_as 50 = .ok (.getfield 12, 3) := by decide +kernel
theorem dX4_as_53 : decode cX4_as 53 = .ok (.iload_n 3, 1) := by decide +kernel
theorem dX4_as_54 : decode cX4_as 54 = .ok (.iload_n 2, 1) := by decide +kernel
theorem dX4_as_55 : decode cX4_as 55 = .ok (.invokevirtual 231, 3) := by decide +kernel
theorem dX4_as_58 : decode cX4_as 58 = .ok (.ifCond .eq 7, 3) := by decide +kernel
theorem dX4_as_61 : decode cX4_as 61 = .ok (.iload_n 3, 1) := by decide +kernel
theorem dX4_as_62 : decode cX4_as 62 = .ok (.goto 9, 3) := by decide +kernel
theorem dX4_as_65 : decode cX4_as 65 = .ok (.aload_n 0, 1) := by decide +kernel
theorem dX4_as_66 : decode cX4_as 66 = .ok (.ldc 235, 2) := by decide +kernel
theorem dX4_as_68 : decode cX4_as 68 = .ok (.invokevirtual 53, 3) := by decide +kernel
theorem dX4_as_71 : decode cX4_as 71 = .ok (.ireturn, 1) := by decide +kernel
theorem dX4_sheet_0 : decode cX4_sheet 0 = .ok (.iload_n 1, 1) := by decide +kernel
theorem dX4_sheet_1 : decode cX4_sheet 1 = .ok (.invokestatic 236, 3) := by decide +kernel
theorem dX4_sheet_4 : decode cX4_sheet 4 = .ok (.ifCond .eq 25, 3) := by decide +kernel
theorem dX4_sheet_7 : decode cX4_sheet 7 = .ok (.iload_n 2, 1) := by decide +kernel
theorem dX4_sheet_8 : decode cX4_sheet 8 = .ok (.ifCond .eq 28, 3) := by decide +kernel
theorem dX4_sheet_11 : decode cX4_sheet 11 = .ok (.iload_n 2, 1) := by decide +kernel
theorem dX4_sheet_12 : decode cX4_sheet 12 = .ok (.bipush 8, 2) := by decide +kernel
theorem dX4_sheet_14 : decode cX4_sheet 14 = .ok (.if_icmp .eq 22, 3) := by decide +kernel
theorem dX4_sheet_17 : decode cX4_sheet 17 = .ok (.iload_n 2, 1) := by decide +kernel
theorem dX4_sheet_18 : decode cX4_sheet 18 = .ok (.bipush 16, 2) := by decide +kernel
theorem dX4_sheet_20 : decode cX4_sheet 20 = .ok (.if_icmp .eq 16, 3) := by decide +kernel
theorem dX4_sheet_23 : decode cX4_sheet 23 = .ok (.iload_n 2, 1) := by decide +kernel
theorem dX4_sheet_24 : decode cX4_sheet 24 = .ok (.bipush 32, 2) := by decide +kernel
theorem dX4_sheet_26 : decode cX4_sheet 26 = .ok (.if_icmp .eq 10, 3) := by decide +kernel
theorem dX4_sheet_29 : decode cX4_sheet 29 = .ok (.aload_n 0, 1) := by decide +kernel
theorem dX4_sheet_30 : decode cX4_sheet 30 = .ok (.ldc 52, 2) := by decide +kernel
theorem dX4_sheet_32 : decode cX4_sheet 32 = .ok (.invokevirtual 53, 3) := by decide +kernel
theorem dX4_sheet_35 : decode cX4_sheet 35 = .ok (.ireturn, 1) := by decide +kernel
theorem dX4_sheet_36 : decode cX4_sheet 36 = .ok (.iload_n 3, 1) := by decide +kernel
theorem dX4_sheet_37 : decode cX4_sheet 37 = .ok (.ifCond .ge 10, 3) := by decide +kernel
theorem dX4_sheet_40 : decode cX4_sheet 40 = .ok (.aload_n 0, 1) := by decide +kernel
theorem dX4_sheet_41 : decode cX4_sheet 41 = .ok (.ldc 239, 2) := by decide +kernel
theorem dX4_sheet_43 : decode cX4_sheet 43 = .ok (.invokevirtual 53, 3) := by decide +kernel
theorem dX4_sheet_46 : decode cX4_sheet 46 = .ok (.ireturn, 1) := by decide +kernel
theorem dX4_sheet_47 : decode cX4_sheet 47 = .ok (.iload_n 3, 1) := by decide +kernel
theorem dX4_sheet_48 : decode cX4_sheet 48 = .ok (.bipush 40, 2) := by decide +kernel
theorem dX4_sheet_50 : decode cX4_sheet 50 = .ok (.if_icmp .le 10, 3) := by decide +kernel
theorem dX4_sheet_53 : decode cX4_sheet 53 = .ok (.aload_n 0, 1) := by decide +kernel
theorem dX4_sheet_54 : decode cX4_sheet 54 = .ok (.ldc 52, 2) := by decide +kernel
theorem dX4_sheet_56 : decode cX4_sheet 56 = .ok (.invokevirtual 53, 3) := by decide +kernel
theorem dX4_sheet_59 : decode cX4_sheet 59 = .ok (.ireturn, 1) := by decide +kernel
theorem dX4_sheet_60 : decode cX4_sheet 60 = .ok (.aload_n 0, 1) := by decide +kernel
theorem dX4_sheet_61 : decode cX4_sheet 61 = .ok (.getfield 39, 3) := by decide +kernel
theorem dX4_sheet_64 : decode cX4_sheet 64 = .ok (.iload_n 1, 1) := by decide +kernel
theorem dX4_sheet_65 : decode cX4_sheet 65 = .ok (.aaload, 1) := by decide +kernel
theorem dX4_sheet_66 : decode cX4_sheet 66 = .ok (.iload_n 2, 1) := by decide +kernel
theorem dX4_sheet_67 : decode cX4_sheet 67 = .ok (.iload_n 3, 1) := by decide +kernel
theorem dX4_sheet_68 : decode cX4_sheet 68 = .ok (.invokevirtual 240, 3) := by decide +kernel
theorem dX4_sheet_71 : decode cX4_sheet 71 = .ok (.iload_n 2, 1) := by decide +kernel
theorem dX4_sheet_72 : decode cX4_sheet 72 = .ok (.ifCond .ne 7, 3) := by decide +kernel
theorem dX4_sheet_75 : decode cX4_sheet 75 = .ok (.iconst 0, 1) := by decide +kernel
theorem dX4_sheet_76 : decode cX4_sheet 76 = .ok (.goto 4, 3) := by decide +kernel
theorem dX4_sheet_79 : decode cX4_sheet 79 = .ok (.iload_n 3, 1) := by decide +kernel
theorem dX4_sheet_80 : decode cX4_sheet 80 = .ok (.ireturn, 1) := by decide +kernel
theorem dX4_write_0 : decode cX4_write 0 = .ok (.aload_n 0, 1) := by decide +kernel
theorem dX4_write_1 : decode cX4_write 1 = .ok (.iload_n 1, 1) := by decide +kernel
theorem dX4_write_2 : decode cX4_write 2 = .ok (.invokevirtual 243, 3) := by decide +kernel
theorem dX4_write_5 : decode cX4_write 5 = .ok (.istore 4, 2) := by decide +kernel
theorem dX4_write_7 : decode cX4_write 7 = .ok (.iload 4, 2) := by decide +kernel
theorem dX4_write_9 : decode cX4_write 9 = .ok (.ifCond .eq 10, 3) := by decide +kernel
theorem dX4_write_12 : decode cX4_write 12 = .ok (.aload_n 0, 1) := by decide +kernel
theorem dX4_write_13 : decode cX4_write 13 = .ok (.iload 4, 2) := by decide +kernel
theorem dX4_write_15 : decode cX4_write 15 = .ok (.invokevirtual 53, 3) := by decide +kernel
theorem dX4_write_18 : decode cX4_write 18 = .ok (.ireturn, 1) := by decide +kernel
theorem dX4_write_19 : decode cX4_write 19 = .ok (.aload_n 0, 1) := by decide +kernel
theorem dX4_write_20 : decode cX4_write 20 = .ok (.getfield 39, 3) := by decide +kernel
theorem dX4_write_23 : decode cX4_write 23 = .ok (.iload_n 1, 1) := by decide +kernel
theorem dX4_write_24 : decode cX4_write 24 = .ok (.aaload, 1) := by decide +kernel
theorem dX4_write_25 : decode cX4_write 25 = .ok (.iload_n 2, 1) := by decide +kernel
theorem dX4_write_26 : decode cX4_write 26 = .ok (.iconst 1, 1) := by decide +kernel
theorem dX4_write_27 : decode cX4_write 27 = .ok (.invokevirtual 246, 3) := by decide +kernel
theorem dX4_write_30 : decode cX4_write 30 = .ok (.ifCond .ne 10, 3) := by decide +kernel
theorem dX4_write_33 : decode cX4_write 33 = .ok (.aload_n 0, 1) := by decide +kernel
theorem dX4_write_34 : decode cX4_write 34 = .ok (.ldc 52, 2) := by decide +kernel
theorem dX4_write_36 : decode cX4_write 36 = .ok (.invokevirtual 53, 3) := by decide +kernel
theorem dX4_write_39 : decode cX4_write 39 = .ok (.ireturn, 1) := by decide +kernel
theorem dX4_write_40 : decode cX4_write 40 = .ok (.aload_n 0, 1) := by decide +kernel
theorem dX4_write_41 : decode cX4_write 41 = .ok (.getfield 39, 3) := by decide +kernel
theorem dX4_write_44 : decode cX4_write 44 = .ok (.iload_n 1, 1) := by decide +kernel
theorem dX4_write_45 : decode cX4_write 45 = .ok (.aaload, 1) := by decide +kernel
theorem dX4_write_46 : decode cX4_write 46 = .ok (.iload_n 2, 1) := by decide +kernel
theorem dX4_write_47 : decode cX4_write 47 = .ok (.iload_n 3, 1) := by decide +kernel
theorem dX4_write_48 : decode cX4_write 48 = .ok (.invokevirtual 248, 3) := by decide +kernel
theorem dX4_write_51 : decode cX4_write 51 = .ok (.iconst 1, 1) := by decide +kernel
theorem dX4_write_52 : decode cX4_write 52 = .ok (.ireturn, 1) := by decide +kernel
theorem dX4_copy_0 : decode cX4_copy 0 = .ok (.iload_n 1, 1) := by decide +kernel
theorem dX4_copy_1 : decode cX4_copy 1 = .ok (.invokestatic 236, 3) := by decide +kernel
theorem dX4_copy_4 : decode cX4_copy 4 = .ok (.ifCond .eq 10, 3) := by decide +kernel
theorem dX4_copy_7 : decode cX4_copy 7 = .ok (.iload_n 3, 1) := by decide +kernel
theorem dX4_copy_8 : decode cX4_copy 8 = .ok (.invokestatic 236, 3) := by decide +kernel
theorem dX4_copy_11 : decode cX4_copy 11 = .ok (.ifCond .ne 10, 3) := by decide +kernel
theorem dX4_copy_14 : decode cX4_copy 14 = .ok (.aload_n 0, 1) := by decide +kernel
theorem dX4_copy_15 : decode cX4_copy 15 = .ok (.ldc 52, 2) := by decide +kernel
theorem dX4_copy_17 : decode cX4_copy 17 = .ok (.invokevirtual 53, 3) := by decide +kernel
theorem dX4_copy_20 : decode cX4_copy 20 = .ok (.ireturn, 1) := by decide +kernel
theorem dX4_copy_21 : decode cX4_copy 21 = .ok (.aload_n 0, 1) := by decide +kernel
theorem dX4_copy_22 : decode cX4_copy 22 = .ok (.getfield 39, 3) := by decide +kernel
theorem dX4_copy_25 : decode cX4_copy 25 = .ok (.iload_n 1, 1) := by decide +kernel
theorem dX4_copy_26 : decode cX4_copy 26 = .ok (.aaload, 1) := by decide +kernel
theorem dX4_copy_27 : decode cX4_copy 27 = .ok (.astore 6, 2) := by decide +kernel
theorem dX4_copy_29 : decode cX4_copy 29 = .ok (.aload_n 0, 1) := by decide +kernel
theorem dX4_copy_30 : decode cX4_copy 30 = .ok (.getfield 39, 3) := by decide +kernel
theorem dX4_copy_33 : decode cX4_copy 33 = .ok (.iload_n 3, 1) := by decide +kernel
theorem dX4_copy_34 : decode cX4_copy 34 = .ok (.aaload, 1) := by decide +kernel
theorem dX4_copy_35 : decode cX4_copy 35 = .ok (.astore 7, 2) := by decide +kernel
theorem dX4_copy_37 : decode cX4_copy 37 = .ok (.aload 6, 2) := by decide +kernel
theorem dX4_copy_39 : decode cX4_copy 39 = .ok (.getfield 251, 3) := by decide +kernel
theorem dX4_copy_42 : decode cX4_copy 42 = .ok (.ifCond .eq 11, 3) := by decide +kernel
theorem dX4_copy_45 : decode cX4_copy 45 = .ok (.aload 7, 2) := by decide +kernel
theorem dX4_copy_47 : decode cX4_copy 47 = .ok (.getfield 251, 3) := by decide +kernel
theorem dX4_copy_50 : decode cX4_copy 50 = .ok (.ifCond .ne 10, 3) := by decide +kernel
theorem dX4_copy_53 : decode cX4_copy 53 = .ok (.aload_n 0, 1) := by decide +kernel
theorem dX4_copy_54 : decode cX4_copy 54 = .ok (.ldc 230, 2) := by decide +kernel
theorem dX4_copy_56 : decode cX4_copy 56 = .ok (.invokevirtual 53, 3) := by decide +kernel
theorem dX4_copy_59 : decode cX4_copy 59 = .ok (.ireturn, 1) := by decide +kernel
theorem dX4_copy_60 : decode cX4_copy 60 = .ok (.aload 6, 2) := by decide +kernel
theorem dX4_copy_62 : decode cX4_copy 62 = .ok (.getfield 251, 3) := by decide +kernel
theorem dX4_copy_65 : decode cX4_copy 65 = .ok (.aload 7, 2) := by decide +kernel
theorem dX4_copy_67 : decode cX4_copy 67 = .ok (.getfield 251, 3) := by decide +kernel
theorem dX4_copy_70 : decode cX4_copy 70 = .ok (.if_icmp .eq 10, 3) := by decide +kernel
theorem dX4_copy_73 : decode cX4_copy 73 = .ok (.aload_n 0, 1) := by decide +kernel
theorem dX4_copy_74 : decode cX4_copy 74 = .ok (.ldc 235, 2) := by decide +kernel
theorem dX4_copy_76 : decode cX4_copy 76 = .ok (.invokevirtual 53, 3) := by decide +kernel
theorem dX4_copy_79 : decode cX4_copy 79 = .ok (.ireturn, 1) := by decide +kernel
theorem dX4_copy_80 : decode cX4_copy 80 = .ok (.aload 6, 2) := by decide +kernel
theorem dX4_copy_82 : decode cX4_copy 82 = .ok (.iload_n 2, 1) := by decide +kernel
theorem dX4_copy_83 : decode cX4_copy 83 = .ok (.iload 5, 2) := by decide +kernel
theorem dX4_copy_85 : decode cX4_copy 85 = .ok (.invokevirtual 246, 3) := by decide +kernel
theorem dX4_copy_88 : decode cX4_copy 88 = .ok (.ifCond .eq 15, 3) := by decide +kernel
theorem dX4_copy_91 : decode cX4_copy 91 = .ok (.aload 7, 2) := by decide +kernel
theorem dX4_copy_93 : decode cX4_copy 93 = .ok (.iload 4, 2) := by decide +kernel
theorem dX4_copy_95 : decode cX4_copy 95 = .ok (.iload 5, 2) := by decide +kernel
theorem dX4_copy_97 : decode cX4_copy 97 = .ok (.invokevirtual 246, 3) := by decide +kernel
theorem dX4_copy_100 : decode cX4_copy 100 = .ok (.ifCond .ne 10, 3) := by decide +kernel
theorem dX4_copy_103 : decode cX4_copy 103 = .ok (.aload_n 0, 1) := by decide +kernel
theorem dX4_copy_104 : decode cX4_copy 104 = .ok (.ldc 52, 2) := by decide +kernel
theorem dX4_copy_106 : decode cX4_copy 106 = .ok (.invokevirtual 53, 3) := by decide +kernel
theorem dX4_copy_109 : decode cX4_copy 109 = .ok (.ireturn, 1) := by decide +kernel
theorem dX4_copy_110 : decode cX4_copy 110 = .ok (.aload 6, 2) := by decide +kernel
theorem dX4_copy_112 : decode cX4_copy 112 = .ok (.getfield 254, 3) := by decide +kernel
theorem dX4_copy_115 : decode cX4_copy 115 = .ok (.iload_n 2, 1) := by decide +kernel
theorem dX4_copy_116 : decode cX4_copy 116 = .ok (.aload 7, 2) := by decide +kernel
theorem dX4_copy_118 : decode cX4_copy 118 = .ok (.getfield 254, 3) := by decide +kernel
theorem dX4_copy_121 : decode cX4_copy 121 = .ok (.iload 4, 2) := by decide +kernel
theorem dX4_copy_123 : decode cX4_copy 123 = .ok (.iload 5, 2) := by decide +kernel
theorem dX4_copy_125 : decode cX4_copy 125 = .ok (.invokestatic 257, 3) := by decide +kernel
theorem dX4_copy_128 : decode cX4_copy 128 = .ok (.iload 5, 2) := by decide +kernel
theorem dX4_copy_130 : decode cX4_copy 130 = .ok (.ireturn, 1) := by decide +kernel
theorem dX4_load_0 : decode cX4_load 0 = .ok (.aload_n 0, 1) := by decide +kernel
theorem dX4_load_1 : decode cX4_load 1 = .ok (.iload_n 1, 1) := by decide +kernel
theorem dX4_load_2 : decode cX4_load 2 = .ok (.invokevirtual 243, 3) := by decide +kernel
theorem dX4_load_5 : decode cX4_load 5 = .ok (.istore_n 2, 1) := by decide +kernel
theorem dX4_load_6 : decode cX4_load 6 = .ok (.iload_n 2, 1) := by decide +kernel
theorem dX4_load_7 : decode cX4_load 7 = .ok (.ifCond .eq 9, 3) := by decide +kernel
theorem dX4_load_10 : decode cX4_load 10 = .ok (.aload_n 0, 1) := by decide +kernel
theorem dX4_load_11 : decode cX4_load 11 = .ok (.iload_n 2, 1) := by decide +kernel
theorem dX4_load_12 : decode cX4_load 12 = .ok (.invokevirtual 53, 3) := by decide +kernel
theorem dX4_load_15 : decode cX4_load 15 = .ok (.ireturn, 1) := by decide +kernel
theorem dX4_load_16 : decode cX4_load 16 = .ok (.aload_n 0, 1) := by decide +kernel
theorem dX4_load_17 : decode cX4_load 17 = .ok (.getfield 39, 3) := by decide +kernel
theorem dX4_load_20 : decode cX4_load 20 = .ok (.iload_n 1, 1) := by decide +kernel
theorem dX4_load_21 : decode cX4_load 21 = .ok (.aaload, 1) := by decide +kernel
theorem dX4_load_22 : decode cX4_load 22 = .ok (.astore_n 3, 1) := by decide +kernel
theorem dX4_load_23 : decode cX4_load 23 = .ok (.iconst 0, 1) := by decide +kernel
theorem dX4_load_24 : decode cX4_load 24 = .ok (.istore 4, 2) := by decide +kernel
theorem dX4_load_26 : decode cX4_load 26 = .ok (.iload 4, 2) := by decide +kernel
theorem dX4_load_28 : decode cX4_load 28 = .ok (.aload_n 3, 1) := by decide +kernel
theorem dX4_load_29 : decode cX4_load 29 = .ok (.getfield 263, 3) := by decide +kernel
theorem dX4_load_32 : decode cX4_load 32 = .ok (.if_icmp .ge 46, 3) := by decide +kernel
theorem dX4_load_35 : decode cX4_load 35 = .ok (.aload_n 0, 1) := by decide +kernel
theorem dX4_load_36 : decode cX4_load 36 = .ok (.getfield 12, 3) := by decide +kernel
theorem dX4_load_39 : decode cX4_load 39 = .ok (.iload 4, 2) := by decide +kernel
theorem dX4_load_41 : decode cX4_load 41 = .ok (.iconst 2, 1) := by decide +kernel
theorem dX4_load_42 : decode cX4_load 42 = .ok (.aload_n 3, 1) := by decide +kernel
theorem dX4_load_43 : decode cX4_load 43 = .ok (.getfield 254, 3) := by decide +kernel
theorem dX4_load_46 : decode cX4_load 46 = .ok (.iload 4, 2) := by decide +kernel
theorem dX4_load_48 : decode cX4_load 48 = .ok (.iaload, 1) := by decide +kernel
theorem dX4_load_49 : decode cX4_load 49 = .ok (.invokevirtual 75, 3) := by decide +kernel
theorem dX4_load_52 : decode cX4_load 52 = .ok (.ifCond .eq 26, 3) := by decide +kernel
theorem dX4_load_55 : decode cX4_load 55 = .ok (.aload_n 0, 1) := by decide +kernel
theorem dX4_load_56 : decode cX4_load 56 = .ok (.getfield 12, 3) := by decide +kernel
theorem dX4_load_59 : decode cX4_load 59 = .ok (.getfield 106, 3) := by decide +kernel
theorem dX4_load_62 : decode cX4_load 62 = .ok (.iload 4, 2) := by decide +kernel
theorem dX4_load_64 : decode cX4_load 64 = .ok (.aload_n 3, 1) := by decide +kernel
theorem dX4_load_65 : decode cX4_load 65 = .ok (.getfield 254, 3) := by decide +kernel
theorem dX4_load_68 : decode cX4_load 68 = .ok (.iload 4, 2) := by decide +kernel
theorem dX4_load_70 : decode cX4_load 70 = .ok (.iaload, 1) := by decide +kernel
theorem dX4_load_71 : decode cX4_load 71 = .ok (.iastore, 1) := by decide +kernel
theorem dX4_load_72 : decode cX4_load 72 = .ok (.iinc 4 1, 3) := by decide +kernel
theorem dX4_load_75 : decode cX4_load 75 = .ok (.goto (-49), 3) := by decide +kernel
theorem dX4_load_78 : decode cX4_load 78 = .ok (.iload 4, 2) := by decide +kernel
theorem dX4_load_80 : decode cX4_load 80 = .ok (.ireturn, 1) := by decide +kernel
theorem dX4_judge_0 : decode cX4_judge 0 = .ok (.aload_n 0, 1) := by decide +kernel
theorem dX4_judge_1 : decode cX4_judge 1 = .ok (.iload_n 1, 1) := by decide +kernel
theorem dX4_judge_2 : decode cX4_judge 2 = .ok (.invokevirtual 243, 3) := by decide +kernel
theorem dX4_judge_5 : decode cX4_judge 5 = .ok (.istore_n 3, 1) := by decide +kernel
theorem dX4_judge_6 : decode cX4_judge 6 = .ok (.iload_n 3, 1) := by decide +kernel
theorem dX4_judge_7 : decode cX4_judge 7 = .ok (.ifCond .eq 9, 3) := by decide +kernel
theorem dX4_judge_10 : decode cX4_judge 10 = .ok (.aload_n 0, 1) := by decide +kernel
theorem dX4_judge_11 : decode cX4_judge 11 = .ok (.iload_n 3, 1) := by decide +kernel
theorem dX4_judge_12 : decode cX4_judge 12 = .ok (.invokevirtual 53, 3) := by decide +kernel
theorem dX4_judge_15 : decode cX4_judge 15 = .ok (.ireturn, 1) := by decide +kernel
theorem dX4_judge_16 : decode cX4_judge 16 = .ok (.aload_n 0, 1) := by decide +kernel
theorem dX4_judge_17 : decode cX4_judge 17 = .ok (.getfield 12, 3) := by decide +kernel
theorem dX4_judge_20 : decode cX4_judge 20 = .ok (.iload_n 2, 1) := by decide +kernel
theorem dX4_judge_21 : decode cX4_judge 21 = .ok (.invokevirtual 65, 3) := by decide +kernel
theorem dX4_judge_24 : decode cX4_judge 24 = .ok (.ifCond .ne 10, 3) := by decide +kernel
theorem dX4_judge_27 : decode cX4_judge 27 = .ok (.aload_n 0, 1) := by decide +kernel
theorem dX4_judge_28 : decode cX4_judge 28 = .ok (.ldc 52, 2) := by decide +kernel
theorem dX4_judge_30 : decode cX4_judge 30 = .ok (.invokevirtual 53, 3) := by decide +kernel
theorem dX4_judge_33 : decode cX4_judge 33 = .ok (.ireturn, 1) := by decide +kernel
theorem dX4_judge_34 : decode cX4_judge 34 = .ok (.aload_n 0, 1) := by decide +kernel
theorem dX4_judge_35 : decode cX4_judge 35 = .ok (.getfield 39, 3) := by decide +kernel
theorem dX4_judge_38 : decode cX4_judge 38 = .ok (.iload_n 1, 1) := by decide +kernel
theorem dX4_judge_39 : decode cX4_judge 39 = .ok (.aaload, 1) := by decide +kernel
theorem dX4_judge_40 : decode cX4_judge 40 = .ok (.astore 4, 2) := by decide +kernel
theorem dX4_judge_42 : decode cX4_judge 42 = .ok (.aload_n 0, 1) := by decide +kernel
theorem dX4_judge_43 : decode cX4_judge 43 = .ok (.getfield 12, 3) := by decide +kernel
theorem dX4_judge_46 : decode cX4_judge 46 = .ok (.getfield 99, 3) := by decide +kernel
theorem dX4_judge_49 : decode cX4_judge 49 = .ok (.aload 4, 2) := by decide +kernel
theorem dX4_judge_51 : decode cX4_judge 51 = .ok (.getfield 263, 3) := by decide +kernel
theorem dX4_judge_54 : decode cX4_judge 54 = .ok (.iadd, 1) := by decide +kernel
theorem dX4_judge_55 : decode cX4_judge 55 = .ok (.sipush 9999, 3) := by decide +kernel
theorem dX4_judge_58 : decode cX4_judge 58 = .ok (.if_icmp .le 10, 3) := by decide +kernel
theorem dX4_judge_61 : decode cX4_judge 61 = .ok (.aload_n 0, 1) := by decide +kernel
theorem dX4_judge_62 : decode cX4_judge 62 = .ok (.ldc 119, 2) := by decide +kernel
theorem dX4_judge_64 : decode cX4_judge 64 = .ok (.invokevirtual 53, 3) := by decide +kernel
theorem dX4_judge_67 : decode cX4_judge 67 = .ok (.ireturn, 1) := by decide +kernel
theorem dX4_judge_68 : decode cX4_judge 68 = .ok (.aload_n 0, 1) := by decide +kernel
theorem dX4_judge_69 : decode cX4_judge 69 = .ok (.invokevirtual 120, 3) := by decide +kernel
theorem dX4_judge_72 : decode cX4_judge 72 = .ok (.iconst 0, 1) := by decide +kernel
theorem dX4_judge_73 : decode cX4_judge 73 = .ok (.istore 5, 2) := by decide +kernel
theorem dX4_judge_75 : decode cX4_judge 75 = .ok (.iload 5, 2) := by decide +kernel
theorem dX4_judge_77 : decode cX4_judge 77 = .ok (.aload 4, 2) := by decide +kernel
theorem dX4_judge_79 : decode cX4_judge 79 = .ok (.getfield 263, 3) := by decide +kernel
theorem dX4_judge_82 : decode cX4_judge 82 = .ok (.if_icmp .ge 42, 3) := by decide +kernel
theorem dX4_judge_85 : decode cX4_judge 85 = .ok (.aload_n 0, 1) := by decide +kernel
theorem dX4_judge_86 : decode cX4_judge 86 = .ok (.getfield 16, 3) := by decide +kernel
theorem dX4_judge_89 : decode cX4_judge 89 = .ok (.invokevirtual 134, 3) := by decide +kernel
theorem dX4_judge_92 : decode cX4_judge 92 = .ok (.pop, 1) := by decide +kernel
theorem dX4_judge_93 : decode cX4_judge 93 = .ok (.aload_n 0, 1) := by decide +kernel
theorem dX4_judge_94 : decode cX4_judge 94 = .ok (.getfield 16, 3) := by decide +kernel
theorem dX4_judge_97 : decode cX4_judge 97 = .ok (.getfield 113, 3) := by decide +kernel
theorem dX4_judge_100 : decode cX4_judge 100 = .ok (.iload_n 2, 1) := by decide +kernel
theorem dX4_judge_101 : decode cX4_judge 101 = .ok (.iaload, 1) := by decide +kernel
theorem dX4_judge_102 : decode cX4_judge 102 = .ok (.aload 4, 2) := by decide +kernel
theorem dX4_judge_104 : decode cX4_judge 104 = .ok (.getfield 254, 3) := by decide +kernel
theorem dX4_judge_107 : decode cX4_judge 107 = .ok (.iload 5, 2) := by decide +kernel
theorem dX4_judge_109 : decode cX4_judge 109 = .ok (.iaload, 1) := by decide +kernel
theorem dX4_judge_110 : decode cX4_judge 110 = .ok (.if_icmp .eq 8, 3) := by decide +kernel
theorem dX4_judge_113 : decode cX4_judge 113 = .ok (.iconst 1, 1) := by decide +kernel
theorem dX4_judge_114 : decode cX4_judge 114 = .ok (.iload 5, 2) := by decide +kernel
theorem dX4_judge_116 : decode cX4_judge 116 = .ok (.iadd, 1) := by decide +kernel
theorem dX4_judge_117 : decode cX4_judge 117 = .ok (.ireturn, 1) := by decide +kernel
theorem dX4_judge_118 : decode cX4_judge 118 = .ok (.iinc 5 1, 3) := by decide +kernel
theorem dX4_judge_121 : decode cX4_judge 121 = .ok (.goto (-46), 3) := by decide +kernel
theorem dX4_judge_124 : decode cX4_judge 124 = .ok (.iconst 0, 1) := by decide +kernel
theorem dX4_judge_125 : decode cX4_judge 125 = .ok (.ireturn, 1) := by decide +kernel
theorem dX4_image_0 : decode cX4_image 0 = .ok (.aload_n 0, 1) := by decide +kernel
theorem dX4_image_1 : decode cX4_image 1 = .ok (.getfield 22, 3) := by decide +kernel
theorem dX4_image_4 : decode cX4_image 4 = .ok (.aload_n 0, 1) := by decide +kernel
theorem dX4_image_5 : decode cX4_image 5 = .ok (.getfield 12, 3) := by decide +kernel
theorem dX4_image_8 : decode cX4_image 8 = .ok (.invokevirtual 145, 3) := by decide +kernel
theorem dX4_image_11 : decode cX4_image 11 = .ok (.aload_n 0, 1) := by decide +kernel
theorem dX4_image_12 : decode cX4_image 12 = .ok (.iconst 1, 1) := by decide +kernel
theorem dX4_image_13 : decode cX4_image 13 = .ok (.putfield 264, 3) := by decide +kernel
theorem dX4_image_16 : decode cX4_image 16 = .ok (.iconst 1, 1) := by decide +kernel
theorem dX4_image_17 : decode cX4_image 17 = .ok (.ireturn, 1) := by decide +kernel
theorem dX4_undo_0 : decode cX4_undo 0 = .ok (.aload_n 0, 1) := by decide +kernel
theorem dX4_undo_1 : decode cX4_undo 1 = .ok (.getfield 264, 3) := by decide +kernel
theorem dX4_undo_4 : decode cX4_undo 4 = .ok (.ifCond .ne 10, 3) := by decide +kernel
theorem dX4_undo_7 : decode cX4_undo 7 = .ok (.aload_n 0, 1) := by decide +kernel
theorem dX4_undo_8 : decode cX4_undo 8 = .ok (.ldc 137, 2) := by decide +kernel
theorem dX4_undo_10 : decode cX4_undo 10 = .ok (.invokevirtual 53, 3) := by decide +kernel
theorem dX4_undo_13 : decode cX4_undo 13 = .ok (.ireturn, 1) := by decide +kernel
theorem dX4_undo_14 : decode cX4_undo 14 = .ok (.aload_n 0, 1) := by decide +kernel
theorem dX4_undo_15 : decode cX4_undo 15 = .ok (.getfield 12, 3) := by decide +kernel
theorem dX4_undo_18 : decode cX4_undo 18 = .ok (.aload_n 0, 1) := by decide +kernel
theorem dX4_undo_19 : decode cX4_undo 19 = .ok (.getfield 22, 3) := by decide +kernel
theorem dX4_undo_22 : decode cX4_undo 22 = .ok (.invokevirtual 145, 3) := by decide +kernel
theorem dX4_undo_25 : decode cX4_undo 25 = .ok (.aload_n 0, 1) := by decide +kernel
theorem dX4_undo_26 : decode cX4_undo 26 = .ok (.getfield 12, 3) := by decide +kernel
theorem dX4_undo_29 : decode cX4_undo 29 = .ok (.getfield 99, 3) := by decide +kernel
theorem dX4_undo_32 : decode cX4_undo 32 = .ok (.ireturn, 1) := by decide +kernel
theorem dX4_tear_0 : decode cX4_tear 0 = .ok (.aload_n 0, 1) := by decide +kernel
theorem dX4_tear_1 : decode cX4_tear 1 = .ok (.getfield 264, 3) := by decide +kernel
theorem dX4_tear_4 : decode cX4_tear 4 = .ok (.ifCond .eq 7, 3) := by decide +kernel
theorem dX4_tear_7 : decode cX4_tear 7 = .ok (.iconst 1, 1) := by decide +kernel
theorem dX4_tear_8 : decode cX4_tear 8 = .ok (.goto 4, 3) := by decide +kernel
theorem dX4_tear_11 : decode cX4_tear 11 = .ok (.iconst 0, 1) := by decide +kernel
theorem dX4_tear_12 : decode cX4_tear 12 = .ok (.istore_n 1, 1) := by decide +kernel
theorem dX4_tear_13 : decode cX4_tear 13 = .ok (.aload_n 0, 1) := by decide +kernel
theorem dX4_tear_14 : decode cX4_tear 14 = .ok (.iconst 0, 1) := by decide +kernel
theorem dX4_tear_15 : decode cX4_tear 15 = .ok (.putfield 264, 3) := by decide +kernel
theorem dX4_tear_18 : decode cX4_tear 18 = .ok (.iload_n 1, 1) := by decide +kernel
theorem dX4_tear_19 : decode cX4_tear 19 = .ok (.ireturn, 1) := by decide +kernel
theorem dX4_count_0 : decode cX4_count 0 = .ok (.iload_n 1, 1) := by decide +kernel
theorem dX4_count_1 : decode cX4_count 1 = .ok (.tableswitch 132 0 7 #[47, 55, 63, 78, 93, 108, 116, 124], 47) := by decide +kernel
theorem dX4_count_48 : decode cX4_count 48 = .ok (.aload_n 0, 1) := by decide +kernel
theorem dX4_count_49 : decode cX4_count 49 = .ok (.getfield 12, 3) := by decide +kernel
theorem dX4_count_52 : decode cX4_count 52 = .ok (.getfield 99, 3) := by decide +kernel
theorem dX4_count_55 : decode cX4_count 55 = .ok (.ireturn, 1) := by decide +kernel
theorem dX4_count_56 : decode cX4_count 56 = .ok (.aload_n 0, 1) := by decide +kernel
theorem dX4_count_57 : decode cX4_count 57 = .ok (.getfield 12, 3) := by decide +kernel
theorem dX4_count_60 : decode cX4_count 60 = .ok (.getfield 57, 3) := by decide +kernel
theorem dX4_count_63 : decode cX4_count 63 = .ok (.ireturn, 1) := by decide +kernel
theorem dX4_count_64 : decode cX4_count 64 = .ok (.aload_n 0, 1) := by decide +kernel
theorem dX4_count_65 : decode cX4_count 65 = .ok (.getfield 12, 3) := by decide +kernel
theorem dX4_count_68 : decode cX4_count 68 = .ok (.aload_n 0, 1) := by decide +kernel
theorem dX4_count_69 : decode cX4_count 69 = .ok (.getfield 12, 3) := by decide +kernel
theorem dX4_count_72 : decode cX4_count 72 = .ok (.getfield 106, 3) := by decide +kernel
theorem dX4_count_75 : decode cX4_count 75 = .ok (.invokevirtual 109, 3) := by decide +kernel
theorem dX4_count_78 : decode cX4_count 78 = .ok (.ireturn, 1) := by decide +kernel
theorem dX4_count_79 : decode cX4_count 79 = .ok (.aload_n 0, 1) := by decide +kernel
theorem dX4_count_80 : decode cX4_count 80 = .ok (.getfield 12, 3) := by decide +kernel
theorem dX4_count_83 : decode cX4_count 83 = .ok (.aload_n 0, 1) := by decide +kernel
theorem dX4_count_84 : decode cX4_count 84 = .ok (.getfield 12, 3) := by decide +kernel
theorem dX4_count_87 : decode cX4_count 87 = .ok (.getfield 113, 3) := by decide +kernel
theorem dX4_count_90 : decode cX4_count 90 = .ok (.invokevirtual 109, 3) := by decide +kernel
theorem dX4_count_93 : decode cX4_count 93 = .ok (.ireturn, 1) := by decide +kernel
theorem dX4_count_94 : decode cX4_count 94 = .ok (.aload_n 0, 1) := by decide +kernel
theorem dX4_count_95 : decode cX4_count 95 = .ok (.getfield 12, 3) := by decide +kernel
theorem dX4_count_98 : decode cX4_count 98 = .ok (.aload_n 0, 1) := by decide +kernel
theorem dX4_count_99 : decode cX4_count 99 = .ok (.getfield 12, 3) := by decide +kernel
theorem dX4_count_102 : decode cX4_count 102 = .ok (.getfield 204, 3) := by decide +kernel
theorem dX4_count_105 : decode cX4_count 105 = .ok (.invokevirtual 109, 3) := by decide +kernel
theorem dX4_count_108 : decode cX4_count 108 = .ok (.ireturn, 1) := by decide +kernel
theorem dX4_count_109 : decode cX4_count 109 = .ok (.aload_n 0, 1) := by decide +kernel
theorem dX4_count_110 : decode cX4_count 110 = .ok (.getfield 36, 3) := by decide +kernel
theorem dX4_count_113 : decode cX4_count 113 = .ok (.getfield 213, 3) := by decide +kernel
theorem dX4_count_116 : decode cX4_count 116 = .ok (.ireturn, 1) := by decide +kernel
theorem dX4_count_117 : decode cX4_count 117 = .ok (.aload_n 0, 1) := by decide +kernel
theorem dX4_count_118 : decode cX4_count 118 = .ok (.getfield 12, 3) := by decide +kernel
theorem dX4_count_121 : decode cX4_count 121 = .ok (.getfield 210, 3) := by decide +kernel
theorem dX4_count_124 : decode cX4_count 124 = .ok (.ireturn, 1) := by decide +kernel
theorem dX4_count_125 : decode cX4_count 125 = .ok (.aload_n 0, 1) := by decide +kernel
theorem dX4_count_126 : decode cX4_count 126 = .ok (.getfield 12, 3) := by decide +kernel
theorem dX4_count_129 : decode cX4_count 129 = .ok (.invokevirtual 268, 3) := by decide +kernel
theorem dX4_count_132 : decode cX4_count 132 = .ok (.ireturn, 1) := by decide +kernel
theorem dX4_count_133 : decode cX4_count 133 = .ok (.aload_n 0, 1) := by decide +kernel
theorem dX4_count_134 : decode cX4_count 134 = .ok (.ldc 52, 2) := by decide +kernel
theorem dX4_count_136 : decode cX4_count 136 = .ok (.invokevirtual 53, 3) := by decide +kernel
theorem dX4_count_139 : decode cX4_count 139 = .ok (.ireturn, 1) := by decide +kernel
theorem dX4_status_0 : decode cX4_status 0 = .ok (.iload_n 1, 1) := by decide +kernel
theorem dX4_status_1 : decode cX4_status 1 = .ok (.iconst (-1), 1) := by decide +kernel
theorem dX4_status_2 : decode cX4_status 2 = .ok (.if_icmp .lt 9, 3) := by decide +kernel
theorem dX4_status_5 : decode cX4_status 5 = .ok (.iload_n 1, 1) := by decide +kernel
theorem dX4_status_6 : decode cX4_status 6 = .ok (.bipush 7, 2) := by decide +kernel
theorem dX4_status_8 : decode cX4_status 8 = .ok (.if_icmp .lt 10, 3) := by decide +kernel
theorem dX4_status_11 : decode cX4_status 11 = .ok (.aload_n 0, 1) := by decide +kernel
theorem dX4_status_12 : decode cX4_status 12 = .ok (.ldc 52, 2) := by decide +kernel
theorem dX4_status_14 : decode cX4_status 14 = .ok (.invokevirtual 53, 3) := by decide +kernel
theorem dX4_status_17 : decode cX4_status 17 = .ok (.ireturn, 1) := by decide +kernel
theorem dX4_status_18 : decode cX4_status 18 = .ok (.iload_n 1, 1) := by decide +kernel
theorem dX4_status_19 : decode cX4_status 19 = .ok (.ifCond .lt 10, 3) := by decide +kernel
theorem dX4_status_22 : decode cX4_status 22 = .ok (.aload_n 0, 1) := by decide +kernel
theorem dX4_status_23 : decode cX4_status 23 = .ok (.getfield 43, 3) := by decide +kernel
theorem dX4_status_26 : decode cX4_status 26 = .ok (.iload_n 1, 1) := by decide +kernel
theorem dX4_status_27 : decode cX4_status 27 = .ok (.iaload, 1) := by decide +kernel
theorem dX4_status_28 : decode cX4_status 28 = .ok (.ireturn, 1) := by decide +kernel
theorem dX4_status_29 : decode cX4_status 29 = .ok (.iconst 0, 1) := by decide +kernel
theorem dX4_status_30 : decode cX4_status 30 = .ok (.istore_n 2, 1) := by decide +kernel
theorem dX4_status_31 : decode cX4_status 31 = .ok (.iconst 0, 1) := by decide +kernel
theorem dX4_status_32 : decode cX4_status 32 = .ok (.istore_n 3, 1) := by decide +kernel
theorem dX4_status_33 : decode cX4_status 33 = .ok (.iload_n 3, 1) := by decide +kernel
theorem dX4_status_34 : decode cX4_status 34 = .ok (.bipush 7, 2) := by decide +kernel
theorem dX4_status_36 : decode cX4_status 36 = .ok (.if_icmp .ge 18, 3) := by decide +kernel
theorem dX4_status_39 : decode cX4_status 39 = .ok (.iload_n 2, 1) := by decide +kernel
theorem dX4_status_40 : decode cX4_status 40 = .ok (.aload_n 0, 1) := by decide +kernel
theorem dX4_status_41 : decode cX4_status 41 = .ok (.getfield 43, 3) := by decide +kernel
theorem dX4_status_44 : decode cX4_status 44 = .ok (.iload_n 3, 1) := by decide +kernel
theorem dX4_status_45 : decode cX4_status 45 = .ok (.iaload, 1) := by decide +kernel
theorem dX4_status_46 : decode cX4_status 46 = .ok (.iadd, 1) := by decide +kernel
theorem dX4_status_47 : decode cX4_status 47 = .ok (.istore_n 2, 1) := by decide +kernel
theorem dX4_status_48 : decode cX4_status 48 = .ok (.iinc 3 1, 3) := by decide +kernel
theorem dX4_status_51 : decode cX4_status 51 = .ok (.goto (-18), 3) := by decide +kernel
theorem dX4_status_54 : decode cX4_status 54 = .ok (.iload_n 2, 1) := by decide +kernel
theorem dX4_status_55 : decode cX4_status 55 = .ok (.ireturn, 1) := by decide +kernel
theorem dX4_tell_0 : decode cX4_tell 0 = .ok (.ldc 52, 2) := by decide +kernel
theorem dX4_tell_2 : decode cX4_tell 2 = .ok (.iload_n 1, 1) := by decide +kernel
theorem dX4_tell_3 : decode cX4_tell 3 = .ok (.isub, 1) := by decide +kernel
theorem dX4_tell_4 : decode cX4_tell 4 = .ok (.istore_n 2, 1) := by decide +kernel
theorem dX4_tell_5 : decode cX4_tell 5 = .ok (.iload_n 2, 1) := by decide +kernel
theorem dX4_tell_6 : decode cX4_tell 6 = .ok (.ifCond .lt 19, 3) := by decide +kernel
theorem dX4_tell_9 : decode cX4_tell 9 = .ok (.iload_n 2, 1) := by decide +kernel
theorem dX4_tell_10 : decode cX4_tell 10 = .ok (.bipush 7, 2) := by decide +kernel
theorem dX4_tell_12 : decode cX4_tell 12 = .ok (.if_icmp .ge 13, 3) := by decide +kernel
theorem dX4_tell_15 : decode cX4_tell 15 = .ok (.aload_n 0, 1) := by decide +kernel
theorem dX4_tell_16 : decode cX4_tell 16 = .ok (.getfield 43, 3) := by decide +kernel
theorem dX4_tell_19 : decode cX4_tell 19 = .ok (.iload_n 2, 1) := by decide +kernel
theorem dX4_tell_20 : decode cX4_tell 20 = .ok (.dup2, 1) := by decide +kernel
theorem dX4_tell_21 : decode cX4_tell 21 = .ok (.iaload, 1) := by decide +kernel
theorem dX4_tell_22 : decode cX4_tell 22 = .ok (.iconst 1, 1) := by decide +kernel
theorem dX4_tell_23 : decode cX4_tell 23 = .ok (.iadd, 1) := by decide +kernel
theorem dX4_tell_24 : decode cX4_tell 24 = .ok (.iastore, 1) := by decide +kernel
theorem dX4_tell_25 : decode cX4_tell 25 = .ok (.iload_n 1, 1) := by decide +kernel
theorem dX4_tell_26 : decode cX4_tell 26 = .ok (.ireturn, 1) := by decide +kernel
theorem dX4_findingOfHours_0 : decode cX4_findingOfHours 0 = .ok (.iload_n 1, 1) := by decide +kernel
theorem dX4_findingOfHours_1 : decode cX4_findingOfHours 1 = .ok (.iconst 1, 1) := by decide +kernel
theorem dX4_findingOfHours_2 : decode cX4_findingOfHours 2 = .ok (.if_icmp .lt 8, 3) := by decide +kernel
theorem dX4_findingOfHours_5 : decode cX4_findingOfHours 5 = .ok (.iload_n 1, 1) := by decide +kernel
theorem dX4_findingOfHours_6 : decode cX4_findingOfHours 6 = .ok (.iload_n 2, 1) := by decide +kernel
theorem dX4_findingOfHours_7 : decode cX4_findingOfHours 7 = .ok (.if_icmp .le 6, 3) := by decide +kernel
theorem dX4_findingOfHours_10 : decode cX4_findingOfHours 10 = .ok (.ldc 52, 2) := by decide +kernel
theorem dX4_findingOfHours_12 : decode cX4_findingOfHours 12 = .ok (.ireturn, 1) := by decide +kernel
theorem dX4_findingOfHours_13 : decode cX4_findingOfHours 13 = .ok (.aload_n 0, 1) := by decide +kernel
theorem dX4_findingOfHours_14 : decode cX4_findingOfHours 14 = .ok (.getfield 12, 3) := by decide +kernel
theorem dX4_findingOfHours_17 : decode cX4_findingOfHours 17 = .ok (.getfield 99, 3) := by decide +kernel
theorem dX4_findingOfHours_20 : decode cX4_findingOfHours 20 = .ok (.iload_n 1, 1) := by decide +kernel
theorem dX4_findingOfHours_21 : decode cX4_findingOfHours 21 = .ok (.iadd, 1) := by decide +kernel
theorem dX4_findingOfHours_22 : decode cX4_findingOfHours 22 = .ok (.sipush 9999, 3) := by decide +kernel
theorem dX4_findingOfHours_25 : decode cX4_findingOfHours 25 = .ok (.if_icmp .le 8, 3) := by decide +kernel
theorem dX4_findingOfHours_28 : decode cX4_findingOfHours 28 = .ok (.ldc 119, 2) := by decide +kernel
theorem dX4_findingOfHours_30 : decode cX4_findingOfHours 30 = .ok (.goto 4, 3) := by decide +kernel
theorem dX4_findingOfHours_33 : decode cX4_findingOfHours 33 = .ok (.iconst 0, 1) := by decide +kernel
theorem dX4_findingOfHours_34 : decode cX4_findingOfHours 34 = .ok (.ireturn, 1) := by decide +kernel
theorem dX4_isLate_0 : decode cX4_isLate 0 = .ok (.aload_n 0, 1) := by decide +kernel
theorem dX4_isLate_1 : decode cX4_isLate 1 = .ok (.getfield 12, 3) := by decide +kernel
theorem dX4_isLate_4 : decode cX4_isLate 4 = .ok (.getfield 99, 3) := by decide +kernel
theorem dX4_isLate_7 : decode cX4_isLate 7 = .ok (.bipush 100, 2) := by decide +kernel
theorem dX4_isLate_9 : decode cX4_isLate 9 = .ok (.iadd, 1) := by decide +kernel
theorem dX4_isLate_10 : decode cX4_isLate 10 = .ok (.sipush 9999, 3) := by decide +kernel
theorem dX4_isLate_13 : decode cX4_isLate 13 = .ok (.if_icmp .le 7, 3) := by decide +kernel
theorem dX4_isLate_16 : decode cX4_isLate 16 = .ok (.iconst 1, 1) := by decide +kernel
theorem dX4_isLate_17 : decode cX4_isLate 17 = .ok (.goto 4, 3) := by decide +kernel
theorem dX4_isLate_20 : decode cX4_isLate 20 = .ok (.iconst 0, 1) := by decide +kernel
theorem dX4_isLate_21 : decode cX4_isLate 21 = .ok (.ireturn, 1) := by decide +kernel
theorem dX4_findingOfRoomAhead_0 : decode cX4_findingOfRoomAhead 0 = .ok (.aload_n 0, 1) := by decide +kernel
theorem dX4_findingOfRoomAhead_1 : decode cX4_findingOfRoomAhead 1 = .ok (.getfield 12, 3) := by decide +kernel
theorem dX4_findingOfRoomAhead_4 : decode cX4_findingOfRoomAhead 4 = .ok (.iload_n 1, 1) := by decide +kernel
theorem dX4_findingOfRoomAhead_5 : decode cX4_findingOfRoomAhead 5 = .ok (.invokevirtual 65, 3) := by decide +kernel
theorem dX4_findingOfRoomAhead_8 : decode cX4_findingOfRoomAhead 8 = .ok (.ifCond .eq 13, 3) := by decide +kernel
theorem dX4_findingOfRoomAhead_11 : decode cX4_findingOfRoomAhead 11 = .ok (.aload_n 0, 1) := by decide +kernel
theorem dX4_findingOfRoomAhead_12 : decode cX4_findingOfRoomAhead 12 = .ok (.iload_n 2, 1) := by decide +kernel
theorem dX4_findingOfRoomAhead_13 : decode cX4_findingOfRoomAhead 13 = .ok (.bipush 60, 2) := by decide +kernel
theorem dX4_findingOfRoomAhead_15 : decode cX4_findingOfRoomAhead 15 = .ok (.invokevirtual 92, 3) := by decide +kernel
theorem dX4_findingOfRoomAhead_18 : decode cX4_findingOfRoomAhead 18 = .ok (.goto 5, 3) := by decide +kernel
theorem dX4_findingOfRoomAhead_21 : decode cX4_findingOfRoomAhead 21 = .ok (.ldc 52, 2) := by decide +kernel
theorem dX4_findingOfRoomAhead_23 : decode cX4_findingOfRoomAhead 23 = .ok (.ireturn, 1) := by decide +kernel
theorem dX4_findingOfPairs_0 : decode cX4_findingOfPairs 0 = .ok (.aload_n 0, 1) := by decide +kernel
theorem dX4_findingOfPairs_1 : decode cX4_findingOfPairs 1 = .ok (.iload_n 1, 1) := by decide +kernel
theorem dX4_findingOfPairs_2 : decode cX4_findingOfPairs 2 = .ok (.bipush 24, 2) := by decide +kernel
theorem dX4_findingOfPairs_4 : decode cX4_findingOfPairs 4 = .ok (.invokevirtual 92, 3) := by decide +kernel
theorem dX4_findingOfPairs_7 : decode cX4_findingOfPairs 7 = .ok (.istore_n 2, 1) := by decide +kernel
theorem dX4_findingOfPairs_8 : decode cX4_findingOfPairs 8 = .ok (.iload_n 2, 1) := by decide +kernel
theorem dX4_findingOfPairs_9 : decode cX4_findingOfPairs 9 = .ok (.ifCond .ne 18, 3) := by decide +kernel
theorem dX4_findingOfPairs_12 : decode cX4_findingOfPairs 12 = .ok (.aload_n 0, 1) := by decide +kernel
theorem dX4_findingOfPairs_13 : decode cX4_findingOfPairs 13 = .ok (.getfield 12, 3) := by decide +kernel
theorem dX4_findingOfPairs_16 : decode cX4_findingOfPairs 16 = .ok (.getfield 57, 3) := by decide +kernel
theorem dX4_findingOfPairs_19 : decode cX4_findingOfPairs 19 = .ok (.ifCond .ne 8, 3) := by decide +kernel
theorem dX4_findingOfPairs_22 : decode cX4_findingOfPairs 22 = .ok (.ldc 119, 2) := by decide +kernel
theorem dX4_findingOfPairs_24 : decode cX4_findingOfPairs 24 = .ok (.goto 4, 3) := by decide +kernel
theorem dX4_findingOfPairs_27 : decode cX4_findingOfPairs 27 = .ok (.iload_n 2, 1) := by decide +kernel
theorem dX4_findingOfPairs_28 : decode cX4_findingOfPairs 28 = .ok (.ireturn, 1) := by decide +kernel
theorem dX4_findingOfSheet_0 : decode cX4_findingOfSheet 0 = .ok (.iload_n 1, 1) := by decide +kernel
theorem dX4_findingOfSheet_1 : decode cX4_findingOfSheet 1 = .ok (.invokestatic 236, 3) := by decide +kernel
theorem dX4_findingOfSheet_4 : decode cX4_findingOfSheet 4 = .ok (.ifCond .ne 6, 3) := by decide +kernel
theorem dX4_findingOfSheet_7 : decode cX4_findingOfSheet 7 = .ok (.ldc 52, 2) := by decide +kernel
theorem dX4_findingOfSheet_9 : decode cX4_findingOfSheet 9 = .ok (.ireturn, 1) := by decide +kernel
theorem dX4_findingOfSheet_10 : decode cX4_findingOfSheet 10 = .ok (.aload_n 0, 1) := by decide +kernel
theorem dX4_findingOfSheet_11 : decode cX4_findingOfSheet 11 = .ok (.getfield 39, 3) := by decide +kernel
theorem dX4_findingOfSheet_14 : decode cX4_findingOfSheet 14 = .ok (.iload_n 1, 1) := by decide +kernel
theorem dX4_findingOfSheet_15 : decode cX4_findingOfSheet 15 = .ok (.aaload, 1) := by decide +kernel
theorem dX4_findingOfSheet_16 : decode cX4_findingOfSheet 16 = .ok (.getfield 251, 3) := by decide +kernel
theorem dX4_findingOfSheet_19 : decode cX4_findingOfSheet 19 = .ok (.ifCond .ne 8, 3) := by decide +kernel
theorem dX4_findingOfSheet_22 : decode cX4_findingOfSheet 22 = .ok (.ldc 230, 2) := by decide +kernel
theorem dX4_findingOfSheet_24 : decode cX4_findingOfSheet 24 = .ok (.goto 4, 3) := by decide +kernel
theorem dX4_findingOfSheet_27 : decode cX4_findingOfSheet 27 = .ok (.iconst 0, 1) := by decide +kernel
theorem dX4_findingOfSheet_28 : decode cX4_findingOfSheet 28 = .ok (.ireturn, 1) := by decide +kernel
theorem dX4_isKind_0 : decode cX4_isKind 0 = .ok (.iload_n 0, 1) := by decide +kernel
theorem dX4_isKind_1 : decode cX4_isKind 1 = .ok (.ifCond .lt 13, 3) := by decide +kernel
theorem dX4_isKind_4 : decode cX4_isKind 4 = .ok (.iload_n 0, 1) := by decide +kernel
theorem dX4_isKind_5 : decode cX4_isKind 5 = .ok (.bipush 6, 2) := by decide +kernel
theorem dX4_isKind_7 : decode cX4_isKind 7 = .ok (.if_icmp .gt 7, 3) := by decide +kernel
theorem dX4_isKind_10 : decode cX4_isKind 10 = .ok (.iconst 1, 1) := by decide +kernel
theorem dX4_isKind_11 : decode cX4_isKind 11 = .ok (.goto 4, 3) := by decide +kernel
theorem dX4_isKind_14 : decode cX4_isKind 14 = .ok (.iconst 0, 1) := by decide +kernel
theorem dX4_isKind_15 : decode cX4_isKind 15 = .ok (.ireturn, 1) := by decide +kernel
theorem dX4_isSpot_0 : decode cX4_isSpot 0 = .ok (.iload_n 0, 1) := by decide +kernel
theorem dX4_isSpot_1 : decode cX4_isSpot 1 = .ok (.ifCond .lt 13, 3) := by decide +kernel
theorem dX4_isSpot_4 : decode cX4_isSpot 4 = .ok (.iload_n 0, 1) := by decide +kernel
theorem dX4_isSpot_5 : decode cX4_isSpot 5 = .ok (.bipush 10, 2) := by decide +kernel
theorem dX4_isSpot_7 : decode cX4_isSpot 7 = .ok (.if_icmp .ge 7, 3) := by decide +kernel
theorem dX4_isSpot_10 : decode cX4_isSpot 10 = .ok (.iconst 1, 1) := by decide +kernel
theorem dX4_isSpot_11 : decode cX4_isSpot 11 = .ok (.goto 4, 3) := by decide +kernel
theorem dX4_isSpot_14 : decode cX4_isSpot 14 = .ok (.iconst 0, 1) := by decide +kernel
theorem dX4_isSpot_15 : decode cX4_isSpot 15 = .ok (.ireturn, 1) := by decide +kernel
theorem dX4_isSheet_0 : decode cX4_isSheet 0 = .ok (.iload_n 0, 1) := by decide +kernel
theorem dX4_isSheet_1 : decode cX4_isSheet 1 = .ok (.ifCond .lt 12, 3) := by decide +kernel
theorem dX4_isSheet_4 : decode cX4_isSheet 4 = .ok (.iload_n 0, 1) := by decide +kernel
theorem dX4_isSheet_5 : decode cX4_isSheet 5 = .ok (.iconst 4, 1) := by decide +kernel
theorem dX4_isSheet_6 : decode cX4_isSheet 6 = .ok (.if_icmp .ge 7, 3) := by decide +kernel
theorem dX4_isSheet_9 : decode cX4_isSheet 9 = .ok (.iconst 1, 1) := by decide +kernel
theorem dX4_isSheet_10 : decode cX4_isSheet 10 = .ok (.goto 4, 3) := by decide +kernel
theorem dX4_isSheet_13 : decode cX4_isSheet 13 = .ok (.iconst 0, 1) := by decide +kernel
theorem dX4_isSheet_14 : decode cX4_isSheet 14 = .ok (.ireturn, 1) := by decide +kernel
theorem dX4_startTrial_0 : decode cX4_startTrial 0 = .ok (.aload_n 0, 1) := by decide +kernel
theorem dX4_startTrial_1 : decode cX4_startTrial 1 = .ok (.getfield 16, 3) := by decide +kernel
theorem dX4_startTrial_4 : decode cX4_startTrial 4 = .ok (.aload_n 0, 1) := by decide +kernel
theorem dX4_startTrial_5 : decode cX4_startTrial 5 = .ok (.getfield 12, 3) := by decide +kernel
theorem dX4_startTrial_8 : decode cX4_startTrial 8 = .ok (.invokevirtual 145, 3) := by decide +kernel
theorem dX4_startTrial_11 : decode cX4_startTrial 11 = .ok (.return_, 1) := by decide +kernel
theorem dX4_goAsItGoes_0 : decode cX4_goAsItGoes 0 = .ok (.aload_n 0, 1) := by decide +kernel
theorem dX4_goAsItGoes_1 : decode cX4_goAsItGoes 1 = .ok (.getfield 19, 3) := by decide +kernel
theorem dX4_goAsItGoes_4 : decode cX4_goAsItGoes 4 = .ok (.aload_n 0, 1) := by decide +kernel
theorem dX4_goAsItGoes_5 : decode cX4_goAsItGoes 5 = .ok (.getfield 12, 3) := by decide +kernel
theorem dX4_goAsItGoes_8 : decode cX4_goAsItGoes 8 = .ok (.invokevirtual 145, 3) := by decide +kernel
theorem dX4_goAsItGoes_11 : decode cX4_goAsItGoes 11 = .ok (.aload_n 0, 1) := by decide +kernel
theorem dX4_goAsItGoes_12 : decode cX4_goAsItGoes 12 = .ok (.getfield 19, 3) := by decide +kernel
theorem dX4_goAsItGoes_15 : decode cX4_goAsItGoes 15 = .ok (.iload_n 1, 1) := by decide +kernel
theorem dX4_goAsItGoes_16 : decode cX4_goAsItGoes 16 = .ok (.invokevirtual 96, 3) := by decide +kernel
theorem dX4_goAsItGoes_19 : decode cX4_goAsItGoes 19 = .ok (.pop, 1) := by decide +kernel
theorem dX4_goAsItGoes_20 : decode cX4_goAsItGoes 20 = .ok (.return_, 1) := by decide +kernel
theorem dX4_goWith_0 : decode cX4_goWith 0 = .ok (.aload_n 0, 1) := by decide +kernel
theorem dX4_goWith_1 : decode cX4_goWith 1 = .ok (.invokevirtual 120, 3) := by decide +kernel
theorem dX4_goWith_4 : decode cX4_goWith 4 = .ok (.aload_n 0, 1) := by decide +kernel
theorem dX4_goWith_5 : decode cX4_goWith 5 = .ok (.getfield 16, 3) := by decide +kernel
theorem dX4_goWith_8 : decode cX4_goWith 8 = .ok (.iload_n 2, 1) := by decide +kernel
theorem dX4_goWith_9 : decode cX4_goWith 9 = .ok (.invokevirtual 71, 3) := by decide +kernel
theorem dX4_goWith_12 : decode cX4_goWith 12 = .ok (.astore 5, 2) := by decide +kernel
theorem dX4_goWith_14 : decode cX4_goWith 14 = .ok (.aload 5, 2) := by decide +kernel
theorem dX4_goWith_16 : decode cX4_goWith 16 = .ok (.ifnull 19, 3) := by decide +kernel
theorem dX4_goWith_19 : decode cX4_goWith 19 = .ok (.aload_n 0, 1) := by decide +kernel
theorem dX4_goWith_20 : decode cX4_goWith 20 = .ok (.getfield 16, 3) := by decide +kernel
theorem dX4_goWith_23 : decode cX4_goWith 23 = .ok (.iload_n 1, 1) := by decide +kernel
theorem dX4_goWith_24 : decode cX4_goWith 24 = .ok (.invokevirtual 65, 3) := by decide +kernel
theorem dX4_goWith_27 : decode cX4_goWith 27 = .ok (.ifCond .eq 8, 3) := by decide +kernel
theorem dX4_goWith_30 : decode cX4_goWith 30 = .ok (.aload 5, 2) := by decide +kernel
theorem dX4_goWith_32 : decode cX4_goWith 32 = .ok (.iload_n 1, 1) := by decide +kernel
theorem dX4_goWith_33 : decode cX4_goWith 33 = .ok (.iload_n 3, 1) := by decide +kernel
theorem dX4_goWith_34 : decode cX4_goWith 34 = .ok (.iastore, 1) := by decide +kernel
theorem dX4_goWith_35 : decode cX4_goWith 35 = .ok (.aload_n 0, 1) := by decide +kernel
theorem dX4_goWith_36 : decode cX4_goWith 36 = .ok (.getfield 16, 3) := by decide +kernel
theorem dX4_goWith_39 : decode cX4_goWith 39 = .ok (.iload 4, 2) := by decide +kernel
theorem dX4_goWith_41 : decode cX4_goWith 41 = .ok (.invokevirtual 96, 3) := by decide +kernel
theorem dX4_goWith_44 : decode cX4_goWith 44 = .ok (.pop, 1) := by decide +kernel
theorem dX4_goWith_45 : decode cX4_goWith 45 = .ok (.return_, 1) := by decide +kernel
theorem dX4_goWithMove_0 : decode cX4_goWithMove 0 = .ok (.aload_n 0, 1) := by decide +kernel
theorem dX4_goWithMove_1 : decode cX4_goWithMove 1 = .ok (.invokevirtual 120, 3) := by decide +kernel
theorem dX4_goWithMove_4 : decode cX4_goWithMove 4 = .ok (.aload_n 0, 1) := by decide +kernel
theorem dX4_goWithMove_5 : decode cX4_goWithMove 5 = .ok (.getfield 16, 3) := by decide +kernel
theorem dX4_goWithMove_8 : decode cX4_goWithMove 8 = .ok (.iload_n 1, 1) := by decide +kernel
theorem dX4_goWithMove_9 : decode cX4_goWithMove 9 = .ok (.iload_n 2, 1) := by decide +kernel
theorem dX4_goWithMove_10 : decode cX4_goWithMove 10 = .ok (.invokevirtual 88, 3) := by decide +kernel
theorem dX4_goWithMove_13 : decode cX4_goWithMove 13 = .ok (.aload_n 0, 1) := by decide +kernel
theorem dX4_goWithMove_14 : decode cX4_goWithMove 14 = .ok (.getfield 16, 3) := by decide +kernel
theorem dX4_goWithMove_17 : decode cX4_goWithMove 17 = .ok (.iload_n 3, 1) := by decide +kernel
theorem dX4_goWithMove_18 : decode cX4_goWithMove 18 = .ok (.invokevirtual 96, 3) := by decide +kernel
theorem dX4_goWithMove_21 : decode cX4_goWithMove 21 = .ok (.pop, 1) := by decide +kernel
theorem dX4_goWithMove_22 : decode cX4_goWithMove 22 = .ok (.return_, 1) := by decide +kernel
theorem dJ9_max_7cf53_0 : decode cJ9_max_7cf53 0 = .ok (.iload_n 0, 1) := by decide +kernel
theorem dJ9_max_7cf53_1 : decode cJ9_max_7cf53 1 = .ok (.iload_n 1, 1) := by decide +kernel
theorem dJ9_max_7cf53_2 : decode cJ9_max_7cf53 2 = .ok (.if_icmp .lt 7, 3) := by decide +kernel
theorem dJ9_max_7cf53_5 : decode cJ9_max_7cf53 5 = .ok (.iload_n 0, 1) := by decide +kernel
theorem dJ9_max_7cf53_6 : decode cJ9_max_7cf53 6 = .ok (.goto 4, 3) := by decide +kernel
theorem dJ9_max_7cf53_9 : decode cJ9_max_7cf53 9 = .ok (.iload_n 1, 1) := by decide +kernel
theorem dJ9_max_7cf53_10 : decode cJ9_max_7cf53 10 = .ok (.ireturn, 1) := by decide +kernel
theorem dJ9_min_7cf53_0 : decode cJ9_min_7cf53 0 = .ok (.iload_n 0, 1) := by decide +kernel
theorem dJ9_min_7cf53_1 : decode cJ9_min_7cf53 1 = .ok (.iload_n 1, 1) := by decide +kernel
theorem dJ9_min_7cf53_2 : decode cJ9_min_7cf53 2 = .ok (.if_icmp .gt 7, 3) := by decide +kernel
theorem dJ9_min_7cf53_5 : decode cJ9_min_7cf53 5 = .ok (.iload_n 0, 1) := by decide +kernel
theorem dJ9_min_7cf53_6 : decode cJ9_min_7cf53 6 = .ok (.goto 4, 3) := by decide +kernel
theorem dJ9_min_7cf53_9 : decode cJ9_min_7cf53 9 = .ok (.iload_n 1, 1) := by decide +kernel
theorem dJ9_min_7cf53_10 : decode cJ9_min_7cf53 10 = .ok (.ireturn, 1) := by decide +kernel
theorem dJ0_length_8abf5_0 : decode cJ0_length_8abf5 0 = .ok (.aload_n 0, 1) := by decide +kernel
theorem dJ0_length_8abf5_1 : decode cJ0_length_8abf5 1 = .ok (.getfield 9, 3) := by decide +kernel
theorem dJ0_length_8abf5_4 : decode cJ0_length_8abf5 4 = .ok (.arraylength, 1) := by decide +kernel
theorem dJ0_length_8abf5_5 : decode cJ0_length_8abf5 5 = .ok (.aload_n 0, 1) := by decide +kernel
theorem dJ0_length_8abf5_6 : decode cJ0_length_8abf5 6 = .ok (.invokevirtual 335, 3) := by decide +kernel
theorem dJ0_length_8abf5_9 : decode cJ0_length_8abf5 9 = .ok (.ishr, 1) := by decide +kernel
theorem dJ0_length_8abf5_10 : decode cJ0_length_8abf5 10 = .ok (.ireturn, 1) := by decide +kernel
theorem dJ0_charAt_5068e_0 : decode cJ0_charAt_5068e 0 = .ok (.aload_n 0, 1) := by decide +kernel
theorem dJ0_charAt_5068e_1 : decode cJ0_charAt_5068e 1 = .ok (.invokevirtual 492, 3) := by decide +kernel
theorem dJ0_charAt_5068e_4 : decode cJ0_charAt_5068e 4 = .ok (.ifCond .eq 12, 3) := by decide +kernel
theorem dJ0_charAt_5068e_7 : decode cJ0_charAt_5068e 7 = .ok (.aload_n 0, 1) := by decide +kernel
theorem dJ0_charAt_5068e_8 : decode cJ0_charAt_5068e 8 = .ok (.getfield 9, 3) := by decide +kernel
theorem dJ0_charAt_5068e_11 : decode cJ0_charAt_5068e 11 = .ok (.iload_n 1, 1) := by decide +kernel
theorem dJ0_charAt_5068e_12 : decode cJ0_charAt_5068e 12 = .ok (.invokestatic 495, 3) := by decide +kernel
theorem dJ0_charAt_5068e_15 : decode cJ0_charAt_5068e 15 = .ok (.ireturn, 1) := by decide +kernel
theorem dJ0_charAt_5068e_16 : decode cJ0_charAt_5068e 16 = .ok (.aload_n 0, 1) := by decide +kernel
theorem dJ0_charAt_5068e_17 : decode cJ0_charAt_5068e 17 = .ok (.getfield 9, 3) := by decide +kernel
theorem dJ0_charAt_5068e_20 : decode cJ0_charAt_5068e 20 = .ok (.iload_n 1, 1) := by decide +kernel
theorem dJ0_charAt_5068e_21 : decode cJ0_charAt_5068e 21 = .ok (.invokestatic 498, 3) := by decide +kernel
theorem dJ0_charAt_5068e_24 : decode cJ0_charAt_5068e 24 = .ok (.ireturn, 1) := by decide +kernel
theorem dJ0_coder_7d493_0 : decode cJ0_coder_7d493 0 = .ok (.getstatic 38, 3) := by decide +kernel
theorem dJ0_coder_7d493_3 : decode cJ0_coder_7d493 3 = .ok (.ifCond .eq 10, 3) := by decide +kernel
theorem dJ0_coder_7d493_6 : decode cJ0_coder_7d493 6 = .ok (.aload_n 0, 1) := by decide +kernel
theorem dJ0_coder_7d493_7 : decode cJ0_coder_7d493 7 = .ok (.getfield 15, 3) := by decide +kernel
theorem dJ0_coder_7d493_10 : decode cJ0_coder_7d493 10 = .ok (.goto 4, 3) := by decide +kernel
theorem dJ0_coder_7d493_13 : decode cJ0_coder_7d493 13 = .ok (.iconst 1, 1) := by decide +kernel
theorem dJ0_coder_7d493_14 : decode cJ0_coder_7d493 14 = .ok (.ireturn, 1) := by decide +kernel
theorem dJ0_isLatin1_aae02_0 : decode cJ0_isLatin1_aae02 0 = .ok (.getstatic 38, 3) := by decide +kernel
theorem dJ0_isLatin1_aae02_3 : decode cJ0_isLatin1_aae02 3 = .ok (.ifCond .eq 14, 3) := by decide +kernel
theorem dJ0_isLatin1_aae02_6 : decode cJ0_isLatin1_aae02 6 = .ok (.aload_n 0, 1) := by decide +kernel
theorem dJ0_isLatin1_aae02_7 : decode cJ0_isLatin1_aae02 7 = .ok (.getfield 15, 3) := by decide +kernel
theorem dJ0_isLatin1_aae02_10 : decode cJ0_isLatin1_aae02 10 = .ok (.ifCond .ne 7, 3) := by decide +kernel
theorem dJ0_isLatin1_aae02_13 : decode cJ0_isLatin1_aae02 13 = .ok (.iconst 1, 1) := by decide +kernel
theorem dJ0_isLatin1_aae02_14 : decode cJ0_isLatin1_aae02 14 = .ok (.goto 4, 3) := by decide +kernel
theorem dJ0_isLatin1_aae02_17 : decode cJ0_isLatin1_aae02 17 = .ok (.iconst 0, 1) := by decide +kernel
theorem dJ0_isLatin1_aae02_18 : decode cJ0_isLatin1_aae02 18 = .ok (.ireturn, 1) := by decide +kernel
theorem dJ0_checkIndex_df160_0 : decode cJ0_checkIndex_df160 0 = .ok (.iload_n 0, 1) := by decide +kernel
theorem dJ0_checkIndex_df160_1 : decode cJ0_checkIndex_df160 1 = .ok (.iload_n 1, 1) := by decide +kernel
theorem dJ0_checkIndex_df160_2 : decode cJ0_checkIndex_df160 2 = .ok (.getstatic 1053, 3) := by decide +kernel
theorem dJ0_checkIndex_df160_5 : decode cJ0_checkIndex_df160 5 = .ok (.invokestatic 1059, 3) := by decide +kernel
theorem dJ0_checkIndex_df160_8 : decode cJ0_checkIndex_df160 8 = .ok (.pop, 1) := by decide +kernel
theorem dJ0_checkIndex_df160_9 : decode cJ0_checkIndex_df160 9 = .ok (.return_, 1) := by decide +kernel
theorem dJ1_charAt_3b067_0 : decode cJ1_charAt_3b067 0 = .ok (.iload_n 1, 1) := by decide +kernel
theorem dJ1_charAt_3b067_1 : decode cJ1_charAt_3b067 1 = .ok (.aload_n 0, 1) := by decide +kernel
theorem dJ1_charAt_3b067_2 : decode cJ1_charAt_3b067 2 = .ok (.arraylength, 1) := by decide +kernel
theorem dJ1_charAt_3b067_3 : decode cJ1_charAt_3b067 3 = .ok (.invokestatic 9, 3) := by decide +kernel
theorem dJ1_charAt_3b067_6 : decode cJ1_charAt_3b067 6 = .ok (.aload_n 0, 1) := by decide +kernel
theorem dJ1_charAt_3b067_7 : decode cJ1_charAt_3b067 7 = .ok (.iload_n 1, 1) := by decide +kernel
theorem dJ1_charAt_3b067_8 : decode cJ1_charAt_3b067 8 = .ok (.baload, 1) := by decide +kernel
theorem dJ1_charAt_3b067_9 : decode cJ1_charAt_3b067 9 = .ok (.sipush 255, 3) := by decide +kernel
theorem dJ1_charAt_3b067_12 : decode cJ1_charAt_3b067 12 = .ok (.iand, 1) := by decide +kernel
theorem dJ1_charAt_3b067_13 : decode cJ1_charAt_3b067 13 = .ok (.i2c, 1) := by decide +kernel
theorem dJ1_charAt_3b067_14 : decode cJ1_charAt_3b067 14 = .ok (.ireturn, 1) := by decide +kernel
theorem dJ2_getChar_3b067_0 : decode cJ2_getChar_3b067 0 = .ok (.getstatic 44, 3) := by decide +kernel
theorem dJ2_getChar_3b067_3 : decode cJ2_getChar_3b067 3 = .ok (.ifCond .ne 25, 3) := by decide +kernel
theorem dJ2_getChar_3b067_6 : decode cJ2_getChar_3b067 6 = .ok (.iload_n 1, 1) := by decide +kernel
theorem dJ2_getChar_3b067_7 : decode cJ2_getChar_3b067 7 = .ok (.ifCond .lt 11, 3) := by decide +kernel
theorem dJ2_getChar_3b067_10 : decode cJ2_getChar_3b067 10 = .ok (.iload_n 1, 1) := by decide +kernel
theorem dJ2_getChar_3b067_11 : decode cJ2_getChar_3b067 11 = .ok (.aload_n 0, 1) := by decide +kernel
theorem dJ2_getChar_3b067_12 : decode cJ2_getChar_3b067 12 = .ok (.invokestatic 48, 3) := by decide +kernel
theorem dJ2_getChar_3b067_15 : decode cJ2_getChar_3b067 15 = .ok (.if_icmp .lt 13, 3) := by decide +kernel
theorem dJ2_getChar_3b067_18 : decode cJ2_getChar_3b067 18 = .ok (.new 52, 3) := by decide +kernel
theorem dJ2_getChar_3b067_21 : decode cJ2_getChar_3b067 21 = .ok (.dup, 1) := by decide +kernel
theorem dJ2_getChar_3b067_22 : decode cJ2_getChar_3b067 22 = .ok (.ldc 54, 2) := by decide +kernel
theorem dJ2_getChar_3b067_24 : decode cJ2_getChar_3b067 24 = .ok (.invokespecial 56, 3) := by decide +kernel
theorem dJ2_getChar_3b067_27 : decode cJ2_getChar_3b067 27 = .ok (.athrow, 1) := by decide +kernel
theorem dJ2_getChar_3b067_28 : decode cJ2_getChar_3b067 28 = .ok (.iload_n 1, 1) := by decide +kernel
theorem dJ2_getChar_3b067_29 : decode cJ2_getChar_3b067 29 = .ok (.iconst 1, 1) := by decide +kernel
theorem dJ2_getChar_3b067_30 : decode cJ2_getChar_3b067 30 = .ok (.ishl, 1) := by decide +kernel
theorem dJ2_getChar_3b067_31 : decode cJ2_getChar_3b067 31 = .ok (.istore_n 1, 1) := by decide +kernel
theorem dJ2_getChar_3b067_32 : decode cJ2_getChar_3b067 32 = .ok (.aload_n 0, 1) := by decide +kernel
theorem dJ2_getChar_3b067_33 : decode cJ2_getChar_3b067 33 = .ok (.iload_n 1, 1) := by decide +kernel
theorem dJ2_getChar_3b067_34 : decode cJ2_getChar_3b067 34 = .ok (.iinc 1 1, 3) := by decide +kernel
theorem dJ2_getChar_3b067_37 : decode cJ2_getChar_3b067 37 = .ok (.baload, 1) := by decide +kernel
theorem dJ2_getChar_3b067_38 : decode cJ2_getChar_3b067 38 = .ok (.sipush 255, 3) := by decide +kernel
theorem dJ2_getChar_3b067_41 : decode cJ2_getChar_3b067 41 = .ok (.iand, 1) := by decide +kernel
theorem dJ2_getChar_3b067_42 : decode cJ2_getChar_3b067 42 = .ok (.getstatic 59, 3) := by decide +kernel
theorem dJ2_getChar_3b067_45 : decode cJ2_getChar_3b067 45 = .ok (.ishl, 1) := by decide +kernel
theorem dJ2_getChar_3b067_46 : decode cJ2_getChar_3b067 46 = .ok (.aload_n 0, 1) := by decide +kernel
theorem dJ2_getChar_3b067_47 : decode cJ2_getChar_3b067 47 = .ok (.iload_n 1, 1) := by decide +kernel
theorem dJ2_getChar_3b067_48 : decode cJ2_getChar_3b067 48 = .ok (.baload, 1) := by decide +kernel
theorem dJ2_getChar_3b067_49 : decode cJ2_getChar_3b067 49 = .ok (.sipush 255, 3) := by decide +kernel
theorem dJ2_getChar_3b067_52 : decode cJ2_getChar_3b067 52 = .ok (.iand, 1) := by decide +kernel
theorem dJ2_getChar_3b067_53 : decode cJ2_getChar_3b067 53 = .ok (.getstatic 63, 3) := by decide +kernel
theorem dJ2_getChar_3b067_56 : decode cJ2_getChar_3b067 56 = .ok (.ishl, 1) := by decide +kernel
theorem dJ2_getChar_3b067_57 : decode cJ2_getChar_3b067 57 = .ok (.ior, 1) := by decide +kernel
theorem dJ2_getChar_3b067_58 : decode cJ2_getChar_3b067 58 = .ok (.i2c, 1) := by decide +kernel
theorem dJ2_getChar_3b067_59 : decode cJ2_getChar_3b067 59 = .ok (.ireturn, 1) := by decide +kernel
theorem dJ2_length_9d52b_0 : decode cJ2_length_9d52b 0 = .ok (.aload_n 0, 1) := by decide +kernel
theorem dJ2_length_9d52b_1 : decode cJ2_length_9d52b 1 = .ok (.arraylength, 1) := by decide +kernel
theorem dJ2_length_9d52b_2 : decode cJ2_length_9d52b 2 = .ok (.iconst 1, 1) := by decide +kernel
theorem dJ2_length_9d52b_3 : decode cJ2_length_9d52b 3 = .ok (.ishr, 1) := by decide +kernel
theorem dJ2_length_9d52b_4 : decode cJ2_length_9d52b 4 = .ok (.ireturn, 1) := by decide +kernel
theorem dJ2_charAt_3b067_0 : decode cJ2_charAt_3b067 0 = .ok (.iload_n 1, 1) := by decide +kernel
theorem dJ2_charAt_3b067_1 : decode cJ2_charAt_3b067 1 = .ok (.aload_n 0, 1) := by decide +kernel
theorem dJ2_charAt_3b067_2 : decode cJ2_charAt_3b067 2 = .ok (.invokestatic 67, 3) := by decide +kernel
theorem dJ2_charAt_3b067_5 : decode cJ2_charAt_3b067 5 = .ok (.aload_n 0, 1) := by decide +kernel
theorem dJ2_charAt_3b067_6 : decode cJ2_charAt_3b067 6 = .ok (.iload_n 1, 1) := by decide +kernel
theorem dJ2_charAt_3b067_7 : decode cJ2_charAt_3b067 7 = .ok (.invokestatic 71, 3) := by decide +kernel
theorem dJ2_charAt_3b067_10 : decode cJ2_charAt_3b067 10 = .ok (.ireturn, 1) := by decide +kernel
theorem dJ2_checkIndex_2214a_0 : decode cJ2_checkIndex_2214a 0 = .ok (.iload_n 0, 1) := by decide +kernel
theorem dJ2_checkIndex_2214a_1 : decode cJ2_checkIndex_2214a 1 = .ok (.aload_n 1, 1) := by decide +kernel
theorem dJ2_checkIndex_2214a_2 : decode cJ2_checkIndex_2214a 2 = .ok (.invokestatic 48, 3) := by decide +kernel
theorem dJ2_checkIndex_2214a_5 : decode cJ2_checkIndex_2214a 5 = .ok (.invokestatic 414, 3) := by decide +kernel
theorem dJ2_checkIndex_2214a_8 : decode cJ2_checkIndex_2214a 8 = .ok (.return_, 1) := by decide +kernel
theorem dJ7_fill_53178_0 : decode cJ7_fill_53178 0 = .ok (.iconst 0, 1) := by decide +kernel
theorem dJ7_fill_53178_1 : decode cJ7_fill_53178 1 = .ok (.istore_n 2, 1) := by decide +kernel
theorem dJ7_fill_53178_2 : decode cJ7_fill_53178 2 = .ok (.aload_n 0, 1) := by decide +kernel
theorem dJ7_fill_53178_3 : decode cJ7_fill_53178 3 = .ok (.arraylength, 1) := by decide +kernel
theorem dJ7_fill_53178_4 : decode cJ7_fill_53178 4 = .ok (.istore_n 3, 1) := by decide +kernel
theorem dJ7_fill_53178_5 : decode cJ7_fill_53178 5 = .ok (.iload_n 2, 1) := by decide +kernel
theorem dJ7_fill_53178_6 : decode cJ7_fill_53178 6 = .ok (.iload_n 3, 1) := by decide +kernel
theorem dJ7_fill_53178_7 : decode cJ7_fill_53178 7 = .ok (.if_icmp .ge 13, 3) := by decide +kernel
theorem dJ7_fill_53178_10 : decode cJ7_fill_53178 10 = .ok (.aload_n 0, 1) := by decide +kernel
theorem dJ7_fill_53178_11 : decode cJ7_fill_53178 11 = .ok (.iload_n 2, 1) := by decide +kernel
theorem dJ7_fill_53178_12 : decode cJ7_fill_53178 12 = .ok (.iload_n 1, 1) := by decide +kernel
theorem dJ7_fill_53178_13 : decode cJ7_fill_53178 13 = .ok (.iastore, 1) := by decide +kernel
theorem dJ7_fill_53178_14 : decode cJ7_fill_53178 14 = .ok (.iinc 2 1, 3) := by decide +kernel
theorem dJ7_fill_53178_17 : decode cJ7_fill_53178 17 = .ok (.goto (-12), 3) := by decide +kernel
theorem dJ7_fill_53178_20 : decode cJ7_fill_53178 20 = .ok (.return_, 1) := by decide +kernel
theorem dJ3_checkIndex_8e157_0 : decode cJ3_checkIndex_8e157 0 = .ok (.iload_n 0, 1) := by decide +kernel
theorem dJ3_checkIndex_8e157_1 : decode cJ3_checkIndex_8e157 1 = .ok (.ifCond .lt 8, 3) := by decide +kernel
theorem dJ3_checkIndex_8e157_4 : decode cJ3_checkIndex_8e157 4 = .ok (.iload_n 0, 1) := by decide +kernel
theorem dJ3_checkIndex_8e157_5 : decode cJ3_checkIndex_8e157 5 = .ok (.iload_n 1, 1) := by decide +kernel
theorem dJ3_checkIndex_8e157_6 : decode cJ3_checkIndex_8e157 6 = .ok (.if_icmp .lt 10, 3) := by decide +kernel
theorem dJ3_checkIndex_8e157_9 : decode cJ3_checkIndex_8e157 9 = .ok (.aload_n 2, 1) := by decide +kernel
theorem dJ3_checkIndex_8e157_10 : decode cJ3_checkIndex_8e157 10 = .ok (.iload_n 0, 1) := by decide +kernel
theorem dJ3_checkIndex_8e157_11 : decode cJ3_checkIndex_8e157 11 = .ok (.iload_n 1, 1) := by decide +kernel
theorem dJ3_checkIndex_8e157_12 : decode cJ3_checkIndex_8e157 12 = .ok (.invokestatic 95, 3) := by decide +kernel
theorem dJ3_checkIndex_8e157_15 : decode cJ3_checkIndex_8e157 15 = .ok (.athrow, 1) := by decide +kernel
theorem dJ3_checkIndex_8e157_16 : decode cJ3_checkIndex_8e157 16 = .ok (.iload_n 0, 1) := by decide +kernel
theorem dJ3_checkIndex_8e157_17 : decode cJ3_checkIndex_8e157 17 = .ok (.ireturn, 1) := by decide +kernel
end
section
theorem dX5_init_0 : decode cX5_init 0 = .ok (.aload_n 0, 1) := by decide +kernel
theorem dX5_init_1 : decode cX5_init 1 = .ok (.invokespecial 1, 3) := by decide +kernel
theorem dX5_init_4 : decode cX5_init 4 = .ok (.aload_n 0, 1) := by decide +kernel
theorem dX5_init_5 : decode cX5_init 5 = .ok (.bipush 86, 2) := by decide +kernel
theorem dX5_init_7 : decode cX5_init 7 = .ok (.newarray .int, 2) := by decide +kernel
theorem dX5_init_9 : decode cX5_init 9 = .ok (.putfield 9, 3) := by decide +kernel
theorem dX5_init_12 : decode cX5_init 12 = .ok (.aload_n 0, 1) := by decide +kernel
theorem dX5_init_13 : decode cX5_init 13 = .ok (.bipush 86, 2) := by decide +kernel
theorem dX5_init_15 : decode cX5_init 15 = .ok (.newarray .int, 2) := by decide +kernel
theorem dX5_init_17 : decode cX5_init 17 = .ok (.putfield 13, 3) := by decide +kernel
theorem dX5_init_20 : decode cX5_init 20 = .ok (.aload_n 0, 1) := by decide +kernel
theorem dX5_init_21 : decode cX5_init 21 = .ok (.bipush 86, 2) := by decide +kernel
theorem dX5_init_23 : decode cX5_init 23 = .ok (.newarray .int, 2) := by decide +kernel
theorem dX5_init_25 : decode cX5_init 25 = .ok (.putfield 16, 3) := by decide +kernel
theorem dX5_init_28 : decode cX5_init 28 = .ok (.aload_n 0, 1) := by decide +kernel
theorem dX5_init_29 : decode cX5_init 29 = .ok (.bipush 8, 2) := by decide +kernel
theorem dX5_init_31 : decode cX5_init 31 = .ok (.newarray .int, 2) := by decide +kernel
theorem dX5_init_33 : decode cX5_init 33 = .ok (.putfield 19, 3) := by decide +kernel
theorem dX5_init_36 : decode cX5_init 36 = .ok (.aload_n 0, 1) := by decide +kernel
theorem dX5_init_37 : decode cX5_init 37 = .ok (.bipush 9, 2) := by decide +kernel
theorem dX5_init_39 : decode cX5_init 39 = .ok (.newarray .int, 2) := by decide +kernel
theorem dX5_init_41 : decode cX5_init 41 = .ok (.dup, 1) := by decide +kernel
theorem dX5_init_42 : decode cX5_init 42 = .ok (.iconst 0, 1) := by decide +kernel
theorem dX5_init_43 : decode cX5_init 43 = .ok (.iconst 0, 1) := by decide +kernel
theorem dX5_init_44 : decode cX5_init 44 = .ok (.iastore, 1) := by decide +kernel
theorem dX5_init_45 : decode cX5_init 45 = .ok (.dup, 1) := by decide +kernel
theorem dX5_init_46 : decode cX5_init 46 = .ok (.iconst 1, 1) := by decide +kernel
theorem dX5_init_47 : decode cX5_init 47 = .ok (.iconst 0, 1) := by decide +kernel
theorem dX5_init_48 : decode cX5_init 48 = .ok (.iastore, 1) := by decide +kernel
theorem dX5_init_49 : decode cX5_init 49 = .ok (.dup, 1) := by decide +kernel
theorem dX5_init_50 : decode cX5_init 50 = .ok (.iconst 2, 1) := by decide +kernel
theorem dX5_init_51 : decode cX5_init 51 = .ok (.iconst 0, 1) := by decide +kernel
theorem dX5_init_52 : decode cX5_init 52 = .ok (.iastore, 1) := by decide +kernel
theorem dX5_init_53 : decode cX5_init 53 = .ok (.dup, 1) := by decide +kernel
theorem dX5_init_54 : decode cX5_init 54 = .ok (.iconst 3, 1) := by decide +kernel
theorem dX5_init_55 : decode cX5_init 55 = .ok (.iconst 1, 1) := by decide +kernel
theorem dX5_init_56 : decode cX5_init 56 = .ok (.iastore, 1) := by decide +kernel
theorem dX5_init_57 : decode cX5_init 57 = .ok (.dup, 1) := by decide +kernel
theorem dX5_init_58 : decode cX5_init 58 = .ok (.iconst 4, 1) := by decide +kernel
theorem dX5_init_59 : decode cX5_init 59 = .ok (.iconst 0, 1) := by decide +kernel
theorem dX5_init_60 : decode cX5_init 60 = .ok (.iastore, 1) := by decide +kernel
theorem dX5_init_61 : decode cX5_init 61 = .ok (.dup, 1) := by decide +kernel
theorem dX5_init_62 : decode cX5_init 62 = .ok (.iconst 5, 1) := by decide +kernel
theorem dX5_init_63 : decode cX5_init 63 = .ok (.iconst 0, 1) := by decide +kernel
theorem dX5_init_64 : decode cX5_init 64 = .ok (.iastore, 1) := by decide +kernel
theorem dX5_init_65 : decode cX5_init 65 = .ok (.dup, 1) := by decide +kernel
theorem dX5_init_66 : decode cX5_init 66 = .ok (.bipush 6, 2) := by decide +kernel
theorem dX5_init_68 : decode cX5_init 68 = .ok (.iconst 0, 1) := by decide +kernel
theorem dX5_init_69 : decode cX5_init 69 = .ok (.iastore, 1) := by decide +kernel
theorem dX5_init_70 : decode cX5_init 70 = .ok (.dup, 1) := by decide +kernel
theorem dX5_init_71 : decode cX5_init 71 = .ok (.bipush 7, 2) := by decide +kernel
theorem dX5_init_73 : decode cX5_init 73 = .ok (.iconst 0, 1) := by decide +kernel
theorem dX5_init_74 : decode cX5_init 74 = .ok (.iastore, 1) := by decide +kernel
theorem dX5_init_75 : decode cX5_init 75 = .ok (.dup, 1) := by decide +kernel
theorem dX5_init_76 : decode cX5_init 76 = .ok (.bipush 8, 2) := by decide +kernel
theorem dX5_init_78 : decode cX5_init 78 = .ok (.iconst 0, 1) := by decide +kernel
theorem dX5_init_79 : decode cX5_init 79 = .ok (.iastore, 1) := by decide +kernel
theorem dX5_init_80 : decode cX5_init 80 = .ok (.putfield 22, 3) := by decide +kernel
theorem dX5_init_83 : decode cX5_init 83 = .ok (.aload_n 0, 1) := by decide +kernel
theorem dX5_init_84 : decode cX5_init 84 = .ok (.bipush 9, 2) := by decide +kernel
theorem dX5_init_86 : decode cX5_init 86 = .ok (.newarray .int, 2) := by decide +kernel
theorem dX5_init_88 : decode cX5_init 88 = .ok (.dup, 1) := by decide +kernel
theorem dX5_init_89 : decode cX5_init 89 = .ok (.iconst 0, 1) := by decide +kernel
theorem dX5_init_90 : decode cX5_init 90 = .ok (.bipush 6, 2) := by decide +kernel
theorem dX5_init_92 : decode cX5_init 92 = .ok (.iastore, 1) := by decide +kernel
theorem dX5_init_93 : decode cX5_init 93 = .ok (.dup, 1) := by decide +kernel
theorem dX5_init_94 : decode cX5_init 94 = .ok (.iconst 1, 1) := by decide +kernel
theorem dX5_init_95 : decode cX5_init 95 = .ok (.sipush 300, 3) := by decide +kernel
theorem dX5_init_98 : decode cX5_init 98 = .ok (.iastore, 1) := by decide +kernel
theorem dX5_init_99 : decode cX5_init 99 = .ok (.dup, 1) := by decide +kernel
theorem dX5_init_100 : decode cX5_init 100 = .ok (.iconst 2, 1) := by decide +kernel
theorem dX5_init_101 : decode cX5_init 101 = .ok (.sipush 999, 3) := by decide +kernel
theorem dX5_init_104 : decode cX5_init 104 = .ok (.iastore, 1) := by decide +kernel
theorem dX5_init_105 : decode cX5_init 105 = .ok (.dup, 1) := by decide +kernel
theorem dX5_init_106 : decode cX5_init 106 = .ok (.iconst 3, 1) := by decide +kernel
theorem dX5_init_107 : decode cX5_init 107 = .ok (.bipush 20, 2) := by decide +kernel
theorem dX5_init_109 : decode cX5_init 109 = .ok (.iastore, 1) := by decide +kernel
theorem dX5_init_110 : decode cX5_init 110 = .ok (.dup, 1) := by decide +kernel
theorem dX5_init_111 : decode cX5_init 111 = .ok (.iconst 4, 1) := by decide +kernel
theorem dX5_init_112 : decode cX5_init 112 = .ok (.bipush 7, 2) := by decide +kernel
theorem dX5_init_114 : decode cX5_init 114 = .ok (.iastore, 1) := by decide +kernel
theorem dX5_init_115 : decode cX5_init 115 = .ok (.dup, 1) := by decide +kernel
theorem dX5_init_116 : decode cX5_init 116 = .ok (.iconst 5, 1) := by decide +kernel
theorem dX5_init_117 : decode cX5_init 117 = .ok (.iconst 1, 1) := by decide +kernel
theorem dX5_init_118 : decode cX5_init 118 = .ok (.iastore, 1) := by decide +kernel
theorem dX5_init_119 : decode cX5_init 119 = .ok (.dup, 1) := by decide +kernel
theorem dX5_init_120 : decode cX5_init 120 = .ok (.bipush 6, 2) := by decide +kernel
theorem dX5_init_122 : decode cX5_init 122 = .ok (.iconst 3, 1) := by decide +kernel
theorem dX5_init_123 : decode cX5_init 123 = .ok (.iastore, 1) := by decide +kernel
theorem dX5_init_124 : decode cX5_init 124 = .ok (.dup, 1) := by decide +kernel
theorem dX5_init_125 : decode cX5_init 125 = .ok (.bipush 7, 2) := by decide +kernel
theorem dX5_init_127 : decode cX5_init 127 = .ok (.bipush 24, 2) := by decide +kernel
theorem dX5_init_129 : decode cX5_init 129 = .ok (.iastore, 1) := by decide +kernel
theorem dX5_init_130 : decode cX5_init 130 = .ok (.dup, 1) := by decide +kernel
theorem dX5_init_131 : decode cX5_init 131 = .ok (.bipush 8, 2) := by decide +kernel
theorem dX5_init_133 : decode cX5_init 133 = .ok (.iconst 3, 1) := by decide +kernel
theorem dX5_init_134 : decode cX5_init 134 = .ok (.iastore, 1) := by decide +kernel
theorem dX5_init_135 : decode cX5_init 135 = .ok (.putfield 25, 3) := by decide +kernel
theorem dX5_init_138 : decode cX5_init 138 = .ok (.aload_n 0, 1) := by decide +kernel
theorem dX5_init_139 : decode cX5_init 139 = .ok (.bipush 8, 2) := by decide +kernel
theorem dX5_init_141 : decode cX5_init 141 = .ok (.newarray .int, 2) := by decide +kernel
theorem dX5_init_143 : decode cX5_init 143 = .ok (.putfield 28, 3) := by decide +kernel
theorem dX5_init_146 : decode cX5_init 146 = .ok (.aload_n 0, 1) := by decide +kernel
theorem dX5_init_147 : decode cX5_init 147 = .ok (.bipush 8, 2) := by decide +kernel
theorem dX5_init_149 : decode cX5_init 149 = .ok (.newarray .int, 2) := by decide +kernel
theorem dX5_init_151 : decode cX5_init 151 = .ok (.putfield 31, 3) := by decide +kernel
theorem dX5_init_154 : decode cX5_init 154 = .ok (.aload_n 0, 1) := by decide +kernel
theorem dX5_init_155 : decode cX5_init 155 = .ok (.bipush 8, 2) := by decide +kernel
theorem dX5_init_157 : decode cX5_init 157 = .ok (.newarray .int, 2) := by decide +kernel
theorem dX5_init_159 : decode cX5_init 159 = .ok (.putfield 34, 3) := by decide +kernel
theorem dX5_init_162 : decode cX5_init 162 = .ok (.aload_n 0, 1) := by decide +kernel
theorem dX5_init_163 : decode cX5_init 163 = .ok (.bipush 8, 2) := by decide +kernel
theorem dX5_init_165 : decode cX5_init 165 = .ok (.newarray .int, 2) := by decide +kernel
theorem dX5_init_167 : decode cX5_init 167 = .ok (.putfield 37, 3) := by decide +kernel
theorem dX5_init_170 : decode cX5_init 170 = .ok (.aload_n 0, 1) := by decide +kernel
theorem dX5_init_171 : decode cX5_init 171 = .ok (.bipush 86, 2) := by decide +kernel
theorem dX5_init_173 : decode cX5_init 173 = .ok (.newarray .int, 2) := by decide +kernel
theorem dX5_init_175 : decode cX5_init 175 = .ok (.putfield 40, 3) := by decide +kernel
theorem dX5_init_178 : decode cX5_init 178 = .ok (.aload_n 0, 1) := by decide +kernel
theorem dX5_init_179 : decode cX5_init 179 = .ok (.bipush 120, 2) := by decide +kernel
theorem dX5_init_181 : decode cX5_init 181 = .ok (.newarray .int, 2) := by decide +kernel
theorem dX5_init_183 : decode cX5_init 183 = .ok (.putfield 43, 3) := by decide +kernel
theorem dX5_init_186 : decode cX5_init 186 = .ok (.aload_n 0, 1) := by decide +kernel
theorem dX5_init_187 : decode cX5_init 187 = .ok (.bipush 7, 2) := by decide +kernel
theorem dX5_init_189 : decode cX5_init 189 = .ok (.anewarray 46, 3) := by decide +kernel
theorem dX5_init_192 : decode cX5_init 192 = .ok (.dup, 1) := by decide +kernel
theorem dX5_init_193 : decode cX5_init 193 = .ok (.iconst 0, 1) := by decide +kernel
theorem dX5_init_194 : decode cX5_init 194 = .ok (.ldc 48, 2) := by decide +kernel
theorem dX5_init_196 : decode cX5_init 196 = .ok (.aastore, 1) := by decide +kernel
theorem dX5_init_197 : decode cX5_init 197 = .ok (.dup, 1) := by decide +kernel
theorem dX5_init_198 : decode cX5_init 198 = .ok (.iconst 1, 1) := by decide +kernel
theorem dX5_init_199 : decode cX5_init 199 = .ok (.ldc 50, 2) := by decide +kernel
theorem dX5_init_201 : decode cX5_init 201 = .ok (.aastore, 1) := by decide +kernel
theorem dX5_init_202 : decode cX5_init 202 = .ok (.dup, 1) := by decide +kernel
theorem dX5_init_203 : decode cX5_init 203 = .ok (.iconst 2, 1) := by decide +kernel
theorem dX5_init_204 : decode cX5_init 204 = .ok (.ldc 52, 2) := by decide +kernel
theorem dX5_init_206 : decode cX5_init 206 = .ok (.aastore, 1) := by decide +kernel
theorem dX5_init_207 : decode cX5_init 207 = .ok (.dup, 1) := by decide +kernel
theorem dX5_init_208 : decode cX5_init 208 = .ok (.iconst 3, 1) := by decide +kernel
theorem dX5_init_209 : decode cX5_init 209 = .ok (.ldc 54, 2) := by decide +kernel
theorem dX5_init_211 : decode cX5_init 211 = .ok (.aastore, 1) := by decide +kernel
theorem dX5_init_212 : decode cX5_init 212 = .ok (.dup, 1) := by decide +kernel
theorem dX5_init_213 : decode cX5_init 213 = .ok (.iconst 4, 1) := by decide +kernel
theorem dX5_init_214 : decode cX5_init 214 = .ok (.ldc 56, 2) := by decide +kernel
theorem dX5_init_216 : decode cX5_init 216 = .ok (.aastore, 1) := by decide +kernel
theorem dX5_init_217 : decode cX5_init 217 = .ok (.dup, 1) := by decide +kernel
theorem dX5_init_218 : decode cX5_init 218 = .ok (.iconst 5, 1) := by decide +kernel
theorem dX5_init_219 : decode cX5_init 219 = .ok (.ldc 58, 2) := by decide +kernel
theorem dX5_init_221 : decode cX5_init 221 = .ok (.aastore, 1) := by decide +kernel
theorem dX5_init_222 : decode cX5_init 222 = .ok (.dup, 1) := by decide +kernel
theorem dX5_init_223 : decode cX5_init 223 = .ok (.bipush 6, 2) := by decide +kernel
theorem dX5_init_225 : decode cX5_init 225 = .ok (.ldc 60, 2) := by decide +kernel
theorem dX5_init_227 : decode cX5_init 227 = .ok (.aastore, 1) := by decide +kernel
theorem dX5_init_228 : decode cX5_init 228 = .ok (.putfield 62, 3) := by decide +kernel
theorem dX5_init_231 : decode cX5_init 231 = .ok (.aload_n 0, 1) := by decide +kernel
theorem dX5_init_232 : decode cX5_init 232 = .ok (.iconst 4, 1) := by decide +kernel
theorem dX5_init_233 : decode cX5_init 233 = .ok (.anewarray 46, 3) := by decide +kernel
theorem dX5_init_236 : decode cX5_init 236 = .ok (.dup, 1) := by decide +kernel
theorem dX5_init_237 : decode cX5_init 237 = .ok (.iconst 0, 1) := by decide +kernel
theorem dX5_init_238 : decode cX5_init 238 = .ok (.ldc 66, 2) := by decide +kernel
theorem dX5_init_240 : decode cX5_init 240 = .ok (.aastore, 1) := by decide +kernel
theorem dX5_init_241 : decode cX5_init 241 = .ok (.dup, 1) := by decide +kernel
theorem dX5_init_242 : decode cX5_init 242 = .ok (.iconst 1, 1) := by decide +kernel
theorem dX5_init_243 : decode cX5_init 243 = .ok (.ldc 68, 2) := by decide +kernel
theorem dX5_init_245 : decode cX5_init 245 = .ok (.aastore, 1) := by decide +kernel
theorem dX5_init_246 : decode cX5_init 246 = .ok (.dup, 1) := by decide +kernel
theorem dX5_init_247 : decode cX5_init 247 = .ok (.iconst 2, 1) := by decide +kernel
theorem dX5_init_248 : decode cX5_init 248 = .ok (.ldc 70, 2) := by decide +kernel
theorem dX5_init_250 : decode cX5_init 250 = .ok (.aastore, 1) := by decide +kernel
theorem dX5_init_251 : decode cX5_init 251 = .ok (.dup, 1) := by decide +kernel
theorem dX5_init_252 : decode cX5_init 252 = .ok (.iconst 3, 1) := by decide +kernel
theorem dX5_init_253 : decode cX5_init 253 = .ok (.ldc 72, 2) := by decide +kernel
theorem dX5_init_255 : decode cX5_init 255 = .ok (.aastore, 1) := by decide +kernel
theorem dX5_init_256 : decode cX5_init 256 = .ok (.putfield 74, 3) := by decide +kernel
theorem dX5_init_259 : decode cX5_init 259 = .ok (.aload_n 0, 1) := by decide +kernel
theorem dX5_init_260 : decode cX5_init 260 = .ok (.sipush 2160, 3) := by decide +kernel
theorem dX5_init_263 : decode cX5_init 263 = .ok (.newarray .int, 2) := by decide +kernel
theorem dX5_init_265 : decode cX5_init 265 = .ok (.putfield 77, 3) := by decide +kernel
theorem dX5_init_268 : decode cX5_init 268 = .ok (.aload_n 0, 1) := by decide +kernel
theorem dX5_init_269 : decode cX5_init 269 = .ok (.iconst 4, 1) := by decide +kernel
theorem dX5_init_270 : decode cX5_init 270 = .ok (.newarray .int, 2) := by decide +kernel
theorem dX5_init_272 : decode cX5_init 272 = .ok (.putfield 80, 3) := by decide +kernel
theorem dX5_init_275 : decode cX5_init 275 = .ok (.aload_n 0, 1) := by decide +kernel
theorem dX5_init_276 : decode cX5_init 276 = .ok (.iconst 4, 1) := by decide +kernel
theorem dX5_init_277 : decode cX5_init 277 = .ok (.newarray .int, 2) := by decide +kernel
theorem dX5_init_279 : decode cX5_init 279 = .ok (.putfield 83, 3) := by decide +kernel
theorem dX5_init_282 : decode cX5_init 282 = .ok (.aload_n 0, 1) := by decide +kernel
theorem dX5_init_283 : decode cX5_init 283 = .ok (.sipush 160, 3) := by decide +kernel
theorem dX5_init_286 : decode cX5_init 286 = .ok (.newarray .int, 2) := by decide +kernel
theorem dX5_init_288 : decode cX5_init 288 = .ok (.putfield 86, 3) := by decide +kernel
theorem dX5_init_291 : decode cX5_init 291 = .ok (.aload_n 0, 1) := by decide +kernel
theorem dX5_init_292 : decode cX5_init 292 = .ok (.bipush 40, 2) := by decide +kernel
theorem dX5_init_294 : decode cX5_init 294 = .ok (.newarray .int, 2) := by decide +kernel
theorem dX5_init_296 : decode cX5_init 296 = .ok (.putfield 89, 3) := by decide +kernel
theorem dX5_init_299 : decode cX5_init 299 = .ok (.aload_n 0, 1) := by decide +kernel
theorem dX5_init_300 : decode cX5_init 300 = .ok (.getfield 9, 3) := by decide +kernel
theorem dX5_init_303 : decode cX5_init 303 = .ok (.iconst 1, 1) := by decide +kernel
theorem dX5_init_304 : decode cX5_init 304 = .ok (.bipush 20, 2) := by decide +kernel
theorem dX5_init_306 : decode cX5_init 306 = .ok (.iastore, 1) := by decide +kernel
theorem dX5_init_307 : decode cX5_init 307 = .ok (.aload_n 0, 1) := by decide +kernel
theorem dX5_init_308 : decode cX5_init 308 = .ok (.getfield 9, 3) := by decide +kernel
theorem dX5_init_311 : decode cX5_init 311 = .ok (.iconst 3, 1) := by decide +kernel
theorem dX5_init_312 : decode cX5_init 312 = .ok (.iconst 1, 1) := by decide +kernel
theorem dX5_init_313 : decode cX5_init 313 = .ok (.iastore, 1) := by decide +kernel
theorem dX5_init_314 : decode cX5_init 314 = .ok (.iconst 0, 1) := by decide +kernel
theorem dX5_init_315 : decode cX5_init 315 = .ok (.istore_n 1, 1) := by decide +kernel
theorem dX5_init_316 : decode cX5_init 316 = .ok (.iload_n 1, 1) := by decide +kernel
theorem dX5_init_317 : decode cX5_init 317 = .ok (.bipush 10, 2) := by decide +kernel
theorem dX5_init_319 : decode cX5_init 319 = .ok (.if_icmp .ge 18, 3) := by decide +kernel
theorem dX5_init_322 : decode cX5_init 322 = .ok (.aload_n 0, 1) := by decide +kernel
theorem dX5_init_323 : decode cX5_init 323 = .ok (.getfield 9, 3) := by decide +kernel
theorem dX5_init_326 : decode cX5_init 326 = .ok (.iconst 4, 1) := by decide +kernel
theorem dX5_init_327 : decode cX5_init 327 = .ok (.iload_n 1, 1) := by decide +kernel
theorem dX5_init_328 : decode cX5_init 328 = .ok (.iadd, 1) := by decide +kernel
theorem dX5_init_329 : decode cX5_init 329 = .ok (.iconst (-1), 1) := by decide +kernel
theorem dX5_init_330 : decode cX5_init 330 = .ok (.iastore, 1) := by decide +kernel
theorem dX5_init_331 : decode cX5_init 331 = .ok (.iinc 1 1, 3) := by decide +kernel
theorem dX5_init_334 : decode cX5_init 334 = .ok (.goto (-18), 3) := by decide +kernel
theorem dX5_init_337 : decode cX5_init 337 = .ok (.return_, 1) := by decide +kernel
theorem dX5_finding_0 : decode cX5_finding 0 = .ok (.aload_n 0, 1) := by decide +kernel
theorem dX5_finding_1 : decode cX5_finding 1 = .ok (.getfield 19, 3) := by decide +kernel
theorem dX5_finding_4 : decode cX5_finding 4 = .ok (.ldc 92, 2) := by decide +kernel
theorem dX5_finding_6 : decode cX5_finding 6 = .ok (.iload_n 1, 1) := by decide +kernel
theorem dX5_finding_7 : decode cX5_finding 7 = .ok (.isub, 1) := by decide +kernel
theorem dX5_finding_8 : decode cX5_finding 8 = .ok (.iconst 1, 1) := by decide +kernel
theorem dX5_finding_9 : decode cX5_finding 9 = .ok (.iadd, 1) := by decide +kernel
theorem dX5_finding_10 : decode cX5_finding 10 = .ok (.dup2, 1) := by decide +kernel
theorem dX5_finding_11 : decode cX5_finding 11 = .ok (.iaload, 1) := by decide +kernel
theorem dX5_finding_12 : decode cX5_finding 12 = .ok (.iconst 1, 1) := by decide +kernel
theorem dX5_finding_13 : decode cX5_finding 13 = .ok (.iadd, 1) := by decide +kernel
theorem dX5_finding_14 : decode cX5_finding 14 = .ok (.iastore, 1) := by decide +kernel
theorem dX5_finding_15 : decode cX5_finding 15 = .ok (.aload_n 0, 1) := by decide +kernel
theorem dX5_finding_16 : decode cX5_finding 16 = .ok (.getfield 19, 3) := by decide +kernel
theorem dX5_finding_19 : decode cX5_finding 19 = .ok (.iconst 0, 1) := by decide +kernel
theorem dX5_finding_20 : decode cX5_finding 20 = .ok (.dup2, 1) := by decide +kernel
theorem dX5_finding_21 : decode cX5_finding 21 = .ok (.iaload, 1) := by decide +kernel
theorem dX5_finding_22 : decode cX5_finding 22 = .ok (.iconst 1, 1) := by decide +kernel
theorem dX5_finding_23 : decode cX5_finding 23 = .ok (.iadd, 1) := by decide +kernel
theorem dX5_finding_24 : decode cX5_finding 24 = .ok (.iastore, 1) := by decide +kernel
theorem dX5_finding_25 : decode cX5_finding 25 = .ok (.iload_n 1, 1) := by decide +kernel
theorem dX5_finding_26 : decode cX5_finding 26 = .ok (.ireturn, 1) := by decide +kernel
theorem dX5_within_0 : decode cX5_within 0 = .ok (.iload_n 0, 1) := by decide +kernel
theorem dX5_within_1 : decode cX5_within 1 = .ok (.iload_n 1, 1) := by decide +kernel
theorem dX5_within_2 : decode cX5_within 2 = .ok (.if_icmp .lt 12, 3) := by decide +kernel
theorem dX5_within_5 : decode cX5_within 5 = .ok (.iload_n 0, 1) := by decide +kernel
theorem dX5_within_6 : decode cX5_within 6 = .ok (.iload_n 2, 1) := by decide +kernel
theorem dX5_within_7 : decode cX5_within 7 = .ok (.if_icmp .gt 7, 3) := by decide +kernel
theorem dX5_within_10 : decode cX5_within 10 = .ok (.iconst 1, 1) := by decide +kernel
theorem dX5_within_11 : decode cX5_within 11 = .ok (.goto 4, 3) := by decide +kernel
theorem dX5_within_14 : decode cX5_within 14 = .ok (.iconst 0, 1) := by decide +kernel
theorem dX5_within_15 : decode cX5_within 15 = .ok (.ireturn, 1) := by decide +kernel
theorem dX5_become_0 : decode cX5_become 0 = .ok (.aload_n 0, 1) := by decide +kernel
theorem dX5_become_1 : decode cX5_become 1 = .ok (.getfield 9, 3) := by decide +kernel
theorem dX5_become_4 : decode cX5_become 4 = .ok (.iload_n 1, 1) := by decide +kernel
theorem dX5_become_5 : decode cX5_become 5 = .ok (.iaload, 1) := by decide +kernel
theorem dX5_become_6 : decode cX5_become 6 = .ok (.istore_n 3, 1) := by decide +kernel
theorem dX5_become_7 : decode cX5_become 7 = .ok (.aload_n 0, 1) := by decide +kernel
theorem dX5_become_8 : decode cX5_become 8 = .ok (.getfield 9, 3) := by decide +kernel
theorem dX5_become_11 : decode cX5_become 11 = .ok (.iload_n 1, 1) := by decide +kernel
theorem dX5_become_12 : decode cX5_become 12 = .ok (.iload_n 2, 1) := by decide +kernel
theorem dX5_become_13 : decode cX5_become 13 = .ok (.iastore, 1) := by decide +kernel
theorem dX5_become_14 : decode cX5_become 14 = .ok (.iload_n 3, 1) := by decide +kernel
theorem dX5_become_15 : decode cX5_become 15 = .ok (.ireturn, 1) := by decide +kernel
theorem dX5_copyRow_0 : decode cX5_copyRow 0 = .ok (.iconst 0, 1) := by decide +kernel
theorem dX5_copyRow_1 : decode cX5_copyRow 1 = .ok (.istore_n 2, 1) := by decide +kernel
theorem dX5_copyRow_2 : decode cX5_copyRow 2 = .ok (.iload_n 2, 1) := by decide +kernel
theorem dX5_copyRow_3 : decode cX5_copyRow 3 = .ok (.bipush 86, 2) := by decide +kernel
theorem dX5_copyRow_5 : decode cX5_copyRow 5 = .ok (.if_icmp .ge 15, 3) := by decide +kernel
theorem dX5_copyRow_8 : decode cX5_copyRow 8 = .ok (.aload_n 1, 1) := by decide +kernel
theorem dX5_copyRow_9 : decode cX5_copyRow 9 = .ok (.iload_n 2, 1) := by decide +kernel
theorem dX5_copyRow_10 : decode cX5_copyRow 10 = .ok (.aload_n 0, 1) := by decide +kernel
theorem dX5_copyRow_11 : decode cX5_copyRow 11 = .ok (.iload_n 2, 1) := by decide +kernel
theorem dX5_copyRow_12 : decode cX5_copyRow 12 = .ok (.iaload, 1) := by decide +kernel
theorem dX5_copyRow_13 : decode cX5_copyRow 13 = .ok (.iastore, 1) := by decide +kernel
theorem dX5_copyRow_14 : decode cX5_copyRow 14 = .ok (.iinc 2 1, 3) := by decide +kernel
theorem dX5_copyRow_17 : decode cX5_copyRow 17 = .ok (.goto (-15), 3) := by decide +kernel
theorem dX5_copyRow_20 : decode cX5_copyRow 20 = .ok (.return_, 1) := by decide +kernel
theorem dX5_putBack_0 : decode cX5_putBack 0 = .ok (.aload_n 0, 1) := by decide +kernel
theorem dX5_putBack_1 : decode cX5_putBack 1 = .ok (.getfield 16, 3) := by decide +kernel
theorem dX5_putBack_4 : decode cX5_putBack 4 = .ok (.aload_n 0, 1) := by decide +kernel
theorem dX5_putBack_5 : decode cX5_putBack 5 = .ok (.getfield 9, 3) := by decide +kernel
theorem dX5_putBack_8 : decode cX5_putBack 8 = .ok (.invokestatic 93, 3) := by decide +kernel
theorem dX5_putBack_11 : decode cX5_putBack 11 = .ok (.iload_n 1, 1) := by decide +kernel
theorem dX5_putBack_12 : decode cX5_putBack 12 = .ok (.ireturn, 1) := by decide +kernel
theorem dX5_has_0 : decode cX5_has 0 = .ok (.iload_n 0, 1) := by decide +kernel
theorem dX5_has_1 : decode cX5_has 1 = .ok (.iload_n 1, 1) := by decide +kernel
theorem dX5_has_2 : decode cX5_has 2 = .ok (.ishr, 1) := by decide +kernel
theorem dX5_has_3 : decode cX5_has 3 = .ok (.iconst 1, 1) := by decide +kernel
theorem dX5_has_4 : decode cX5_has 4 = .ok (.iand, 1) := by decide +kernel
theorem dX5_has_5 : decode cX5_has 5 = .ok (.iconst 1, 1) := by decide +kernel
theorem dX5_has_6 : decode cX5_has 6 = .ok (.if_icmp .ne 7, 3) := by decide +kernel
theorem dX5_has_9 : decode cX5_has 9 = .ok (.iconst 1, 1) := by decide +kernel
theorem dX5_has_10 : decode cX5_has 10 = .ok (.goto 4, 3) := by decide +kernel
theorem dX5_has_13 : decode cX5_has 13 = .ok (.iconst 0, 1) := by decide +kernel
theorem dX5_has_14 : decode cX5_has 14 = .ok (.ireturn, 1) := by decide +kernel
theorem dX5_isRoom_0 : decode cX5_isRoom 0 = .ok (.iload_n 1, 1) := by decide +kernel
theorem dX5_isRoom_1 : decode cX5_isRoom 1 = .ok (.iconst 0, 1) := by decide +kernel
theorem dX5_isRoom_2 : decode cX5_isRoom 2 = .ok (.aload_n 0, 1) := by decide +kernel
theorem dX5_isRoom_3 : decode cX5_isRoom 3 = .ok (.getfield 9, 3) := by decide +kernel
theorem dX5_isRoom_6 : decode cX5_isRoom 6 = .ok (.iconst 2, 1) := by decide +kernel
theorem dX5_isRoom_7 : decode cX5_isRoom 7 = .ok (.iaload, 1) := by decide +kernel
theorem dX5_isRoom_8 : decode cX5_isRoom 8 = .ok (.iconst 1, 1) := by decide +kernel
theorem dX5_isRoom_9 : decode cX5_isRoom 9 = .ok (.isub, 1) := by decide +kernel
theorem dX5_isRoom_10 : decode cX5_isRoom 10 = .ok (.invokestatic 97, 3) := by decide +kernel
theorem dX5_isRoom_13 : decode cX5_isRoom 13 = .ok (.ireturn, 1) := by decide +kernel
theorem dX5_isKind_0 : decode cX5_isKind 0 = .ok (.iload_n 0, 1) := by decide +kernel
theorem dX5_isKind_1 : decode cX5_isKind 1 = .ok (.iconst 0, 1) := by decide +kernel
theorem dX5_isKind_2 : decode cX5_isKind 2 = .ok (.bipush 6, 2) := by decide +kernel
theorem dX5_isKind_4 : decode cX5_isKind 4 = .ok (.invokestatic 97, 3) := by decide +kernel
theorem dX5_isKind_7 : decode cX5_isKind 7 = .ok (.ireturn, 1) := by decide +kernel
theorem dX5_at_0 : decode cX5_at 0 = .ok (.bipush 14, 2) := by decide +kernel
theorem dX5_at_2 : decode cX5_at 2 = .ok (.bipush 9, 2) := by decide +kernel
theorem dX5_at_4 : decode cX5_at 4 = .ok (.iload_n 0, 1) := by decide +kernel
theorem dX5_at_5 : decode cX5_at 5 = .ok (.imul, 1) := by decide +kernel
theorem dX5_at_6 : decode cX5_at 6 = .ok (.iadd, 1) := by decide +kernel
theorem dX5_at_7 : decode cX5_at 7 = .ok (.iload_n 1, 1) := by decide +kernel
theorem dX5_at_8 : decode cX5_at 8 = .ok (.iadd, 1) := by decide +kernel
theorem dX5_at_9 : decode cX5_at 9 = .ok (.ireturn, 1) := by decide +kernel
theorem dX5_roomIs_0 : decode cX5_roomIs 0 = .ok (.aload_n 0, 1) := by decide +kernel
theorem dX5_roomIs_1 : decode cX5_roomIs 1 = .ok (.getfield 9, 3) := by decide +kernel
theorem dX5_roomIs_4 : decode cX5_roomIs 4 = .ok (.iload_n 1, 1) := by decide +kernel
theorem dX5_roomIs_5 : decode cX5_roomIs 5 = .ok (.iload_n 2, 1) := by decide +kernel
theorem dX5_roomIs_6 : decode cX5_roomIs 6 = .ok (.invokestatic 101, 3) := by decide +kernel
theorem dX5_roomIs_9 : decode cX5_roomIs 9 = .ok (.iaload, 1) := by decide +kernel
theorem dX5_roomIs_10 : decode cX5_roomIs 10 = .ok (.ireturn, 1) := by decide +kernel
theorem dX5_comes_0 : decode cX5_comes 0 = .ok (.aload_n 0, 1) := by decide +kernel
theorem dX5_comes_1 : decode cX5_comes 1 = .ok (.getfield 9, 3) := by decide +kernel
theorem dX5_comes_4 : decode cX5_comes 4 = .ok (.iconst 2, 1) := by decide +kernel
theorem dX5_comes_5 : decode cX5_comes 5 = .ok (.iaload, 1) := by decide +kernel
theorem dX5_comes_6 : decode cX5_comes 6 = .ok (.istore_n 2, 1) := by decide +kernel
theorem dX5_comes_7 : decode cX5_comes 7 = .ok (.aload_n 0, 1) := by decide +kernel
theorem dX5_comes_8 : decode cX5_comes 8 = .ok (.getfield 9, 3) := by decide +kernel
theorem dX5_comes_11 : decode cX5_comes 11 = .ok (.iload_n 2, 1) := by decide +kernel
theorem dX5_comes_12 : decode cX5_comes 12 = .ok (.iconst 0, 1) := by decide +kernel
theorem dX5_comes_13 : decode cX5_comes 13 = .ok (.invokestatic 101, 3) := by decide +kernel
theorem dX5_comes_16 : decode cX5_comes 16 = .ok (.iload_n 1, 1) := by decide +kernel
theorem dX5_comes_17 : decode cX5_comes 17 = .ok (.iastore, 1) := by decide +kernel
theorem dX5_comes_18 : decode cX5_comes 18 = .ok (.aload_n 0, 1) := by decide +kernel
theorem dX5_comes_19 : decode cX5_comes 19 = .ok (.getfield 9, 3) := by decide +kernel
theorem dX5_comes_22 : decode cX5_comes 22 = .ok (.iload_n 2, 1) := by decide +kernel
theorem dX5_comes_23 : decode cX5_comes 23 = .ok (.iconst 1, 1) := by decide +kernel
theorem dX5_comes_24 : decode cX5_comes 24 = .ok (.invokestatic 101, 3) := by decide +kernel
theorem dX5_comes_27 : decode cX5_comes 27 = .ok (.bipush 100, 2) := by decide +kernel
theorem dX5_comes_29 : decode cX5_comes 29 = .ok (.iastore, 1) := by decide +kernel
theorem dX5_comes_30 : decode cX5_comes 30 = .ok (.aload_n 0, 1) := by decide +kernel
theorem dX5_comes_31 : decode cX5_comes 31 = .ok (.getfield 9, 3) := by decide +kernel
theorem dX5_comes_34 : decode cX5_comes 34 = .ok (.iload_n 2, 1) := by decide +kernel
theorem dX5_comes_35 : decode cX5_comes 35 = .ok (.iconst 2, 1) := by decide +kernel
theorem dX5_comes_36 : decode cX5_comes 36 = .ok (.invokestatic 101, 3) := by decide +kernel
theorem dX5_comes_39 : decode cX5_comes 39 = .ok (.bipush 50, 2) := by decide +kernel
theorem dX5_comes_41 : decode cX5_comes 41 = .ok (.iastore, 1) := by decide +kernel
theorem dX5_comes_42 : decode cX5_comes 42 = .ok (.aload_n 0, 1) := by decide +kernel
theorem dX5_comes_43 : decode cX5_comes 43 = .ok (.getfield 9, 3) := by decide +kernel
theorem dX5_comes_46 : decode cX5_comes 46 = .ok (.iload_n 2, 1) := by decide +kernel
theorem dX5_comes_47 : decode cX5_comes 47 = .ok (.iconst 3, 1) := by decide +kernel
theorem dX5_comes_48 : decode cX5_comes 48 = .ok (.invokestatic 101, 3) := by decide +kernel
theorem dX5_comes_51 : decode cX5_comes 51 = .ok (.bipush 10, 2) := by decide +kernel
theorem dX5_comes_53 : decode cX5_comes 53 = .ok (.iastore, 1) := by decide +kernel
theorem dX5_comes_54 : decode cX5_comes 54 = .ok (.aload_n 0, 1) := by decide +kernel
theorem dX5_comes_55 : decode cX5_comes 55 = .ok (.getfield 9, 3) := by decide +kernel
theorem dX5_comes_58 : decode cX5_comes 58 = .ok (.iload_n 2, 1) := by decide +kernel
theorem dX5_comes_59 : decode cX5_comes 59 = .ok (.iconst 4, 1) := by decide +kernel
theorem dX5_comes_60 : decode cX5_comes 60 = .ok (.invokestatic 101, 3) := by decide +kernel
theorem dX5_comes_63 : decode cX5_comes 63 = .ok (.iload_n 2, 1) := by decide +kernel
theorem dX5_comes_64 : decode cX5_comes 64 = .ok (.iconst 1, 1) := by decide +kernel
theorem dX5_comes_65 : decode cX5_comes 65 = .ok (.iadd, 1) := by decide +kernel
theorem dX5_comes_66 : decode cX5_comes 66 = .ok (.bipush 8, 2) := by decide +kernel
theorem dX5_comes_68 : decode cX5_comes 68 = .ok (.irem, 1) := by decide +kernel
theorem dX5_comes_69 : decode cX5_comes 69 = .ok (.iastore, 1) := by decide +kernel
theorem dX5_comes_70 : decode cX5_comes 70 = .ok (.aload_n 0, 1) := by decide +kernel
theorem dX5_comes_71 : decode cX5_comes 71 = .ok (.getfield 9, 3) := by decide +kernel
theorem dX5_comes_74 : decode cX5_comes 74 = .ok (.iload_n 2, 1) := by decide +kernel
theorem dX5_comes_75 : decode cX5_comes 75 = .ok (.iconst 5, 1) := by decide +kernel
theorem dX5_comes_76 : decode cX5_comes 76 = .ok (.invokestatic 101, 3) := by decide +kernel
theorem dX5_comes_79 : decode cX5_comes 79 = .ok (.iconst 0, 1) := by decide +kernel
theorem dX5_comes_80 : decode cX5_comes 80 = .ok (.iastore, 1) := by decide +kernel
theorem dX5_comes_81 : decode cX5_comes 81 = .ok (.aload_n 0, 1) := by decide +kernel
theorem dX5_comes_82 : decode cX5_comes 82 = .ok (.getfield 9, 3) := by decide +kernel
theorem dX5_comes_85 : decode cX5_comes 85 = .ok (.iload_n 2, 1) := by decide +kernel
theorem dX5_comes_86 : decode cX5_comes 86 = .ok (.bipush 6, 2) := by decide +kernel
theorem dX5_comes_88 : decode cX5_comes 88 = .ok (.invokestatic 101, 3) := by decide +kernel
theorem dX5_comes_91 : decode cX5_comes 91 = .ok (.iconst 0, 1) := by decide +kernel
theorem dX5_comes_92 : decode cX5_comes 92 = .ok (.iastore, 1) := by decide +kernel
theorem dX5_comes_93 : decode cX5_comes 93 = .ok (.aload_n 0, 1) := by decide +kernel
theorem dX5_comes_94 : decode cX5_comes 94 = .ok (.getfield 9, 3) := by decide +kernel
theorem dX5_comes_97 : decode cX5_comes 97 = .ok (.iload_n 2, 1) := by decide +kernel
theorem dX5_comes_98 : decode cX5_comes 98 = .ok (.bipush 7, 2) := by decide +kernel
theorem dX5_comes_100 : decode cX5_comes 100 = .ok (.invokestatic 101, 3) := by decide +kernel
theorem dX5_comes_103 : decode cX5_comes 103 = .ok (.iconst 1, 1) := by decide +kernel
theorem dX5_comes_104 : decode cX5_comes 104 = .ok (.iastore, 1) := by decide +kernel
theorem dX5_comes_105 : decode cX5_comes 105 = .ok (.aload_n 0, 1) := by decide +kernel
theorem dX5_comes_106 : decode cX5_comes 106 = .ok (.getfield 9, 3) := by decide +kernel
theorem dX5_comes_109 : decode cX5_comes 109 = .ok (.iload_n 2, 1) := by decide +kernel
theorem dX5_comes_110 : decode cX5_comes 110 = .ok (.bipush 8, 2) := by decide +kernel
theorem dX5_comes_112 : decode cX5_comes 112 = .ok (.invokestatic 101, 3) := by decide +kernel
theorem dX5_comes_115 : decode cX5_comes 115 = .ok (.iconst 1, 1) := by decide +kernel
theorem dX5_comes_116 : decode cX5_comes 116 = .ok (.iastore, 1) := by decide +kernel
theorem dX5_comes_117 : decode cX5_comes 117 = .ok (.aload_n 0, 1) := by decide +kernel
theorem dX5_comes_118 : decode cX5_comes 118 = .ok (.getfield 9, 3) := by decide +kernel
theorem dX5_comes_121 : decode cX5_comes 121 = .ok (.iconst 2, 1) := by decide +kernel
theorem dX5_comes_122 : decode cX5_comes 122 = .ok (.dup2, 1) := by decide +kernel
theorem dX5_comes_123 : decode cX5_comes 123 = .ok (.iaload, 1) := by decide +kernel
theorem dX5_comes_124 : decode cX5_comes 124 = .ok (.iconst 1, 1) := by decide +kernel
theorem dX5_comes_125 : decode cX5_comes 125 = .ok (.iadd, 1) := by decide +kernel
theorem dX5_comes_126 : decode cX5_comes 126 = .ok (.iastore, 1) := by decide +kernel
theorem dX5_comes_127 : decode cX5_comes 127 = .ok (.iload_n 2, 1) := by decide +kernel
theorem dX5_comes_128 : decode cX5_comes 128 = .ok (.ireturn, 1) := by decide +kernel
theorem dX5_room_0 : decode cX5_room 0 = .ok (.iload_n 1, 1) := by decide +kernel
theorem dX5_room_1 : decode cX5_room 1 = .ok (.invokestatic 105, 3) := by decide +kernel
theorem dX5_room_4 : decode cX5_room 4 = .ok (.ifCond .ne 10, 3) := by decide +kernel
theorem dX5_room_7 : decode cX5_room 7 = .ok (.aload_n 0, 1) := by decide +kernel
theorem dX5_room_8 : decode cX5_room 8 = .ok (.ldc 92, 2) := by decide +kernel
theorem dX5_room_10 : decode cX5_room 10 = .ok (.invokevirtual 109, 3) := by decide +kernel
theorem dX5_room_13 : decode cX5_room 13 = .ok (.ireturn, 1) := by decide +kernel
theorem dX5_room_14 : decode cX5_room 14 = .ok (.aload_n 0, 1) := by decide +kernel
theorem dX5_room_15 : decode cX5_room 15 = .ok (.getfield 9, 3) := by decide +kernel
theorem dX5_room_18 : decode cX5_room 18 = .ok (.iconst 2, 1) := by decide +kernel
theorem dX5_room_19 : decode cX5_room 19 = .ok (.iaload, 1) := by decide +kernel
theorem dX5_room_20 : decode cX5_room 20 = .ok (.bipush 8, 2) := by decide +kernel
theorem dX5_room_22 : decode cX5_room 22 = .ok (.if_icmp .ne 12, 3) := by decide +kernel
theorem dX5_room_25 : decode cX5_room 25 = .ok (.aload_n 0, 1) := by decide +kernel
theorem dX5_room_26 : decode cX5_room 26 = .ok (.ldc 113, 2) := by decide +kernel
theorem dX5_room_28 : decode cX5_room 28 = .ok (.invokevirtual 109, 3) := by decide +kernel
theorem dX5_room_31 : decode cX5_room 31 = .ok (.goto 8, 3) := by decide +kernel
theorem dX5_room_34 : decode cX5_room 34 = .ok (.aload_n 0, 1) := by decide +kernel
theorem dX5_room_35 : decode cX5_room 35 = .ok (.iload_n 1, 1) := by decide +kernel
theorem dX5_room_36 : decode cX5_room 36 = .ok (.invokevirtual 114, 3) := by decide +kernel
theorem dX5_room_39 : decode cX5_room 39 = .ok (.ireturn, 1) := by decide +kernel
theorem dX5_above_0 : decode cX5_above 0 = .ok (.iload_n 0, 1) := by decide +kernel
theorem dX5_above_1 : decode cX5_above 1 = .ok (.ifCond .ne 7, 3) := by decide +kernel
theorem dX5_above_4 : decode cX5_above 4 = .ok (.iconst (-1), 1) := by decide +kernel
theorem dX5_above_5 : decode cX5_above 5 = .ok (.goto 28, 3) := by decide +kernel
theorem dX5_above_8 : decode cX5_above 8 = .ok (.iload_n 0, 1) := by decide +kernel
theorem dX5_above_9 : decode cX5_above 9 = .ok (.iconst 3, 1) := by decide +kernel
theorem dX5_above_10 : decode cX5_above 10 = .ok (.if_icmp .eq 9, 3) := by decide +kernel
theorem dX5_above_13 : decode cX5_above 13 = .ok (.iload_n 0, 1) := by decide +kernel
theorem dX5_above_14 : decode cX5_above 14 = .ok (.bipush 6, 2) := by decide +kernel
theorem dX5_above_16 : decode cX5_above 16 = .ok (.if_icmp .ne 7, 3) := by decide +kernel
theorem dX5_above_19 : decode cX5_above 19 = .ok (.iconst 2, 1) := by decide +kernel
theorem dX5_above_20 : decode cX5_above 20 = .ok (.goto 13, 3) := by decide +kernel
theorem dX5_above_23 : decode cX5_above 23 = .ok (.iload_n 0, 1) := by decide +kernel
theorem dX5_above_24 : decode cX5_above 24 = .ok (.iconst 4, 1) := by decide +kernel
theorem dX5_above_25 : decode cX5_above 25 = .ok (.if_icmp .ne 7, 3) := by decide +kernel
theorem dX5_above_28 : decode cX5_above 28 = .ok (.iconst 1, 1) := by decide +kernel
theorem dX5_above_29 : decode cX5_above 29 = .ok (.goto 4, 3) := by decide +kernel
theorem dX5_above_32 : decode cX5_above 32 = .ok (.iconst 0, 1) := by decide +kernel
theorem dX5_above_33 : decode cX5_above 33 = .ok (.ireturn, 1) := by decide +kernel
theorem dX5_isUnder_0 : decode cX5_isUnder 0 = .ok (.iload_n 0, 1) := by decide +kernel
theorem dX5_isUnder_1 : decode cX5_isUnder 1 = .ok (.istore_n 2, 1) := by decide +kernel
theorem dX5_isUnder_2 : decode cX5_isUnder 2 = .ok (.iload_n 2, 1) := by decide +kernel
theorem dX5_isUnder_3 : decode cX5_isUnder 3 = .ok (.ifCond .lt 16, 3) := by decide +kernel
theorem dX5_isUnder_6 : decode cX5_isUnder 6 = .ok (.iload_n 2, 1) := by decide +kernel
theorem dX5_isUnder_7 : decode cX5_isUnder 7 = .ok (.iload_n 1, 1) := by decide +kernel
theorem dX5_isUnder_8 : decode cX5_isUnder 8 = .ok (.if_icmp .eq 11, 3) := by decide +kernel
theorem dX5_isUnder_11 : decode cX5_isUnder 11 = .ok (.iload_n 2, 1) := by decide +kernel
theorem dX5_isUnder_12 : decode cX5_isUnder 12 = .ok (.invokestatic 117, 3) := by decide +kernel
theorem dX5_isUnder_15 : decode cX5_isUnder 15 = .ok (.istore_n 2, 1) := by decide +kernel
theorem dX5_isUnder_16 : decode cX5_isUnder 16 = .ok (.goto (-14), 3) := by decide +kernel
theorem dX5_isUnder_19 : decode cX5_isUnder 19 = .ok (.iload_n 2, 1) := by decide +kernel
theorem dX5_isUnder_20 : decode cX5_isUnder 20 = .ok (.ifCond .lt 7, 3) := by decide +kernel
theorem dX5_isUnder_23 : decode cX5_isUnder 23 = .ok (.iconst 1, 1) := by decide +kernel
theorem dX5_isUnder_24 : decode cX5_isUnder 24 = .ok (.goto 4, 3) := by decide +kernel
theorem dX5_isUnder_27 : decode cX5_isUnder 27 = .ok (.iconst 0, 1) := by decide +kernel
theorem dX5_isUnder_28 : decode cX5_isUnder 28 = .ok (.ireturn, 1) := by decide +kernel
theorem dX5_wants_0 : decode cX5_wants 0 = .ok (.iconst 3, 1) := by decide +kernel
theorem dX5_wants_1 : decode cX5_wants 1 = .ok (.aload_n 0, 1) := by decide +kernel
theorem dX5_wants_2 : decode cX5_wants 2 = .ok (.iload_n 1, 1) := by decide +kernel
theorem dX5_wants_3 : decode cX5_wants 3 = .ok (.bipush 7, 2) := by decide +kernel
theorem dX5_wants_5 : decode cX5_wants 5 = .ok (.invokevirtual 120, 3) := by decide +kernel
theorem dX5_wants_8 : decode cX5_wants 8 = .ok (.invokestatic 123, 3) := by decide +kernel
theorem dX5_wants_11 : decode cX5_wants 11 = .ok (.istore_n 2, 1) := by decide +kernel
theorem dX5_wants_12 : decode cX5_wants 12 = .ok (.aload_n 0, 1) := by decide +kernel
theorem dX5_wants_13 : decode cX5_wants 13 = .ok (.iload_n 1, 1) := by decide +kernel
theorem dX5_wants_14 : decode cX5_wants 14 = .ok (.iconst 1, 1) := by decide +kernel
theorem dX5_wants_15 : decode cX5_wants 15 = .ok (.invokevirtual 120, 3) := by decide +kernel
theorem dX5_wants_18 : decode cX5_wants 18 = .ok (.bipush 120, 2) := by decide +kernel
theorem dX5_wants_20 : decode cX5_wants 20 = .ok (.if_icmp .lt 7, 3) := by decide +kernel
theorem dX5_wants_23 : decode cX5_wants 23 = .ok (.iconst 2, 1) := by decide +kernel
theorem dX5_wants_24 : decode cX5_wants 24 = .ok (.goto 4, 3) := by decide +kernel
theorem dX5_wants_27 : decode cX5_wants 27 = .ok (.iconst 1, 1) := by decide +kernel
theorem dX5_wants_28 : decode cX5_wants 28 = .ok (.istore_n 3, 1) := by decide +kernel
theorem dX5_wants_29 : decode cX5_wants 29 = .ok (.aload_n 0, 1) := by decide +kernel
theorem dX5_wants_30 : decode cX5_wants 30 = .ok (.iload_n 1, 1) := by decide +kernel
theorem dX5_wants_31 : decode cX5_wants 31 = .ok (.iconst 0, 1) := by decide +kernel
theorem dX5_wants_32 : decode cX5_wants 32 = .ok (.invokevirtual 120, 3) := by decide +kernel
theorem dX5_wants_35 : decode cX5_wants 35 = .ok (.tableswitch 90 1 6 #[37, 43, 45, 39, 66, 49], 37) := by decide +kernel
theorem dX5_wants_72 : decode cX5_wants 72 = .ok (.iload_n 3, 1) := by decide +kernel
theorem dX5_wants_73 : decode cX5_wants 73 = .ok (.ireturn, 1) := by decide +kernel
theorem dX5_wants_74 : decode cX5_wants 74 = .ok (.iload_n 3, 1) := by decide +kernel
theorem dX5_wants_75 : decode cX5_wants 75 = .ok (.iconst 1, 1) := by decide +kernel
theorem dX5_wants_76 : decode cX5_wants 76 = .ok (.iadd, 1) := by decide +kernel
theorem dX5_wants_77 : decode cX5_wants 77 = .ok (.ireturn, 1) := by decide +kernel
theorem dX5_wants_78 : decode cX5_wants 78 = .ok (.iload_n 2, 1) := by decide +kernel
theorem dX5_wants_79 : decode cX5_wants 79 = .ok (.ireturn, 1) := by decide +kernel
theorem dX5_wants_80 : decode cX5_wants 80 = .ok (.iload_n 2, 1) := by decide +kernel
theorem dX5_wants_81 : decode cX5_wants 81 = .ok (.iconst 2, 1) := by decide +kernel
theorem dX5_wants_82 : decode cX5_wants 82 = .ok (.idiv, 1) := by decide +kernel
theorem dX5_wants_83 : decode cX5_wants 83 = .ok (.ireturn, 1) := by decide +kernel
theorem dX5_wants_84 : decode cX5_wants 84 = .ok (.aload_n 0, 1) := by decide +kernel
theorem dX5_wants_85 : decode cX5_wants 85 = .ok (.iload_n 1, 1) := by decide +kernel
theorem dX5_wants_86 : decode cX5_wants 86 = .ok (.bipush 7, 2) := by decide +kernel
theorem dX5_wants_88 : decode cX5_wants 88 = .ok (.invokevirtual 120, 3) := by decide +kernel
theorem dX5_wants_91 : decode cX5_wants 91 = .ok (.iconst 2, 1) := by decide +kernel
theorem dX5_wants_92 : decode cX5_wants 92 = .ok (.if_icmp .ge 7, 3) := by decide +kernel
theorem dX5_wants_95 : decode cX5_wants 95 = .ok (.iconst 0, 1) := by decide +kernel
theorem dX5_wants_96 : decode cX5_wants 96 = .ok (.goto 4, 3) := by decide +kernel
theorem dX5_wants_99 : decode cX5_wants 99 = .ok (.iload_n 2, 1) := by decide +kernel
theorem dX5_wants_100 : decode cX5_wants 100 = .ok (.ireturn, 1) := by decide +kernel
theorem dX5_wants_101 : decode cX5_wants 101 = .ok (.aload_n 0, 1) := by decide +kernel
theorem dX5_wants_102 : decode cX5_wants 102 = .ok (.getfield 9, 3) := by decide +kernel
theorem dX5_wants_105 : decode cX5_wants 105 = .ok (.iconst 0, 1) := by decide +kernel
theorem dX5_wants_106 : decode cX5_wants 106 = .ok (.iaload, 1) := by decide +kernel
theorem dX5_wants_107 : decode cX5_wants 107 = .ok (.iconst 2, 1) := by decide +kernel
theorem dX5_wants_108 : decode cX5_wants 108 = .ok (.irem, 1) := by decide +kernel
theorem dX5_wants_109 : decode cX5_wants 109 = .ok (.iconst 1, 1) := by decide +kernel
theorem dX5_wants_110 : decode cX5_wants 110 = .ok (.if_icmp .ne 13, 3) := by decide +kernel
theorem dX5_wants_113 : decode cX5_wants 113 = .ok (.aload_n 0, 1) := by decide +kernel
theorem dX5_wants_114 : decode cX5_wants 114 = .ok (.iload_n 1, 1) := by decide +kernel
theorem dX5_wants_115 : decode cX5_wants 115 = .ok (.bipush 8, 2) := by decide +kernel
theorem dX5_wants_117 : decode cX5_wants 117 = .ok (.invokevirtual 120, 3) := by decide +kernel
theorem dX5_wants_120 : decode cX5_wants 120 = .ok (.goto 4, 3) := by decide +kernel
theorem dX5_wants_123 : decode cX5_wants 123 = .ok (.iconst 1, 1) := by decide +kernel
theorem dX5_wants_124 : decode cX5_wants 124 = .ok (.ireturn, 1) := by decide +kernel
theorem dX5_wants_125 : decode cX5_wants 125 = .ok (.iconst 1, 1) := by decide +kernel
theorem dX5_wants_126 : decode cX5_wants 126 = .ok (.ireturn, 1) := by decide +kernel
theorem dX5_of_0 : decode cX5_of 0 = .ok (.aload_n 0, 1) := by decide +kernel
theorem dX5_of_1 : decode cX5_of 1 = .ok (.iload_n 1, 1) := by decide +kernel
theorem dX5_of_2 : decode cX5_of 2 = .ok (.invokevirtual 128, 3) := by decide +kernel
theorem dX5_of_5 : decode cX5_of 5 = .ok (.ifCond .eq 13, 3) := by decide +kernel
theorem dX5_of_8 : decode cX5_of 8 = .ok (.iload_n 2, 1) := by decide +kernel
theorem dX5_of_9 : decode cX5_of 9 = .ok (.iconst 0, 1) := by decide +kernel
theorem dX5_of_10 : decode cX5_of 10 = .ok (.bipush 9, 2) := by decide +kernel
theorem dX5_of_12 : decode cX5_of 12 = .ok (.invokestatic 97, 3) := by decide +kernel
theorem dX5_of_15 : decode cX5_of 15 = .ok (.ifCond .ne 10, 3) := by decide +kernel
theorem dX5_of_18 : decode cX5_of 18 = .ok (.aload_n 0, 1) := by decide +kernel
theorem dX5_of_19 : decode cX5_of 19 = .ok (.ldc 92, 2) := by decide +kernel
theorem dX5_of_21 : decode cX5_of 21 = .ok (.invokevirtual 109, 3) := by decide +kernel
theorem dX5_of_24 : decode cX5_of 24 = .ok (.ireturn, 1) := by decide +kernel
theorem dX5_of_25 : decode cX5_of 25 = .ok (.iload_n 2, 1) := by decide +kernel
theorem dX5_of_26 : decode cX5_of 26 = .ok (.bipush 9, 2) := by decide +kernel
theorem dX5_of_28 : decode cX5_of 28 = .ok (.if_icmp .ne 11, 3) := by decide +kernel
theorem dX5_of_31 : decode cX5_of 31 = .ok (.aload_n 0, 1) := by decide +kernel
theorem dX5_of_32 : decode cX5_of 32 = .ok (.iload_n 1, 1) := by decide +kernel
theorem dX5_of_33 : decode cX5_of 33 = .ok (.invokevirtual 131, 3) := by decide +kernel
theorem dX5_of_36 : decode cX5_of 36 = .ok (.goto 9, 3) := by decide +kernel
theorem dX5_of_39 : decode cX5_of 39 = .ok (.aload_n 0, 1) := by decide +kernel
theorem dX5_of_40 : decode cX5_of 40 = .ok (.iload_n 1, 1) := by decide +kernel
theorem dX5_of_41 : decode cX5_of 41 = .ok (.iload_n 2, 1) := by decide +kernel
theorem dX5_of_42 : decode cX5_of 42 = .ok (.invokevirtual 120, 3) := by decide +kernel
theorem dX5_of_45 : decode cX5_of 45 = .ok (.ireturn, 1) := by decide +kernel
theorem dX5_change_0 : decode cX5_change 0 = .ok (.aload_n 0, 1) := by decide +kernel
theorem dX5_change_1 : decode cX5_change 1 = .ok (.iload_n 1, 1) := by decide +kernel
theorem dX5_change_2 : decode cX5_change 2 = .ok (.invokevirtual 128, 3) := by decide +kernel
theorem dX5_change_5 : decode cX5_change 5 = .ok (.ifCond .eq 46, 3) := by decide +kernel
theorem dX5_change_8 : decode cX5_change 8 = .ok (.iload_n 2, 1) := by decide +kernel
theorem dX5_change_9 : decode cX5_change 9 = .ok (.iconst 0, 1) := by decide +kernel
theorem dX5_change_10 : decode cX5_change 10 = .ok (.bipush 8, 2) := by decide +kernel
theorem dX5_change_12 : decode cX5_change 12 = .ok (.invokestatic 97, 3) := by decide +kernel
theorem dX5_change_15 : decode cX5_change 15 = .ok (.ifCond .eq 36, 3) := by decide +kernel
theorem dX5_change_18 : decode cX5_change 18 = .ok (.iload_n 3, 1) := by decide +kernel
theorem dX5_change_19 : decode cX5_change 19 = .ok (.aload_n 0, 1) := by decide +kernel
theorem dX5_change_20 : decode cX5_change 20 = .ok (.getfield 22, 3) := by decide +kernel
theorem dX5_change_23 : decode cX5_change 23 = .ok (.iload_n 2, 1) := by decide +kernel
theorem dX5_change_24 : decode cX5_change 24 = .ok (.iaload, 1) := by decide +kernel
theorem dX5_change_25 : decode cX5_change 25 = .ok (.aload_n 0, 1) := by decide +kernel
theorem dX5_change_26 : decode cX5_change 26 = .ok (.getfield 25, 3) := by decide +kernel
theorem dX5_change_29 : decode cX5_change 29 = .ok (.iload_n 2, 1) := by decide +kernel
theorem dX5_change_30 : decode cX5_change 30 = .ok (.iaload, 1) := by decide +kernel
theorem dX5_change_31 : decode cX5_change 31 = .ok (.invokestatic 97, 3) := by decide +kernel
theorem dX5_change_34 : decode cX5_change 34 = .ok (.ifCond .eq 17, 3) := by decide +kernel
theorem dX5_change_37 : decode cX5_change 37 = .ok (.iload_n 2, 1) := by decide +kernel
theorem dX5_change_38 : decode cX5_change 38 = .ok (.iconst 4, 1) := by decide +kernel
theorem dX5_change_39 : decode cX5_change 39 = .ok (.if_icmp .ne 8, 3) := by decide +kernel
theorem dX5_change_42 : decode cX5_change 42 = .ok (.iload_n 3, 1) := by decide +kernel
theorem dX5_change_43 : decode cX5_change 43 = .ok (.iload_n 1, 1) := by decide +kernel
theorem dX5_change_44 : decode cX5_change 44 = .ok (.if_icmp .eq 7, 3) := by decide +kernel
theorem dX5_change_47 : decode cX5_change 47 = .ok (.iconst 1, 1) := by decide +kernel
theorem dX5_change_48 : decode cX5_change 48 = .ok (.goto 4, 3) := by decide +kernel
theorem dX5_change_51 : decode cX5_change 51 = .ok (.iconst 0, 1) := by decide +kernel
theorem dX5_change_52 : decode cX5_change 52 = .ok (.istore 4, 2) := by decide +kernel
theorem dX5_change_54 : decode cX5_change 54 = .ok (.iload 4, 2) := by decide +kernel
theorem dX5_change_56 : decode cX5_change 56 = .ok (.ifCond .eq 16, 3) := by decide +kernel
theorem dX5_change_59 : decode cX5_change 59 = .ok (.aload_n 0, 1) := by decide +kernel
theorem dX5_change_60 : decode cX5_change 60 = .ok (.iload_n 1, 1) := by decide +kernel
theorem dX5_change_61 : decode cX5_change 61 = .ok (.iload_n 2, 1) := by decide +kernel
theorem dX5_change_62 : decode cX5_change 62 = .ok (.invokestatic 101, 3) := by decide +kernel
theorem dX5_change_65 : decode cX5_change 65 = .ok (.iload_n 3, 1) := by decide +kernel
theorem dX5_change_66 : decode cX5_change 66 = .ok (.invokevirtual 134, 3) := by decide +kernel
theorem dX5_change_69 : decode cX5_change 69 = .ok (.goto 9, 3) := by decide +kernel
theorem dX5_change_72 : decode cX5_change 72 = .ok (.aload_n 0, 1) := by decide +kernel
theorem dX5_change_73 : decode cX5_change 73 = .ok (.ldc 92, 2) := by decide +kernel
theorem dX5_change_75 : decode cX5_change 75 = .ok (.invokevirtual 109, 3) := by decide +kernel
theorem dX5_change_78 : decode cX5_change 78 = .ok (.ireturn, 1) := by decide +kernel
theorem dX5_out_0 : decode cX5_out 0 = .ok (.iload_n 1, 1) := by decide +kernel
theorem dX5_out_1 : decode cX5_out 1 = .ok (.iconst 0, 1) := by decide +kernel
theorem dX5_out_2 : decode cX5_out 2 = .ok (.bipush 100, 2) := by decide +kernel
theorem dX5_out_4 : decode cX5_out 4 = .ok (.invokestatic 97, 3) := by decide +kernel
theorem dX5_out_7 : decode cX5_out 7 = .ok (.ifCond .eq 12, 3) := by decide +kernel
theorem dX5_out_10 : decode cX5_out 10 = .ok (.aload_n 0, 1) := by decide +kernel
theorem dX5_out_11 : decode cX5_out 11 = .ok (.iconst 1, 1) := by decide +kernel
theorem dX5_out_12 : decode cX5_out 12 = .ok (.iload_n 1, 1) := by decide +kernel
theorem dX5_out_13 : decode cX5_out 13 = .ok (.invokevirtual 134, 3) := by decide +kernel
theorem dX5_out_16 : decode cX5_out 16 = .ok (.goto 9, 3) := by decide +kernel
theorem dX5_out_19 : decode cX5_out 19 = .ok (.aload_n 0, 1) := by decide +kernel
theorem dX5_out_20 : decode cX5_out 20 = .ok (.ldc 92, 2) := by decide +kernel
theorem dX5_out_22 : decode cX5_out 22 = .ok (.invokevirtual 109, 3) := by decide +kernel
theorem dX5_out_25 : decode cX5_out 25 = .ok (.ireturn, 1) := by decide +kernel
theorem dX5_heatersOf_0 : decode cX5_heatersOf 0 = .ok (.iconst 0, 1) := by decide +kernel
theorem dX5_heatersOf_1 : decode cX5_heatersOf 1 = .ok (.istore_n 2, 1) := by decide +kernel
theorem dX5_heatersOf_2 : decode cX5_heatersOf 2 = .ok (.iconst 0, 1) := by decide +kernel
theorem dX5_heatersOf_3 : decode cX5_heatersOf 3 = .ok (.istore_n 3, 1) := by decide +kernel
theorem dX5_heatersOf_4 : decode cX5_heatersOf 4 = .ok (.iload_n 3, 1) := by decide +kernel
theorem dX5_heatersOf_5 : decode cX5_heatersOf 5 = .ok (.aload_n 0, 1) := by decide +kernel
theorem dX5_heatersOf_6 : decode cX5_heatersOf 6 = .ok (.getfield 9, 3) := by decide +kernel
theorem dX5_heatersOf_9 : decode cX5_heatersOf 9 = .ok (.iconst 2, 1) := by decide +kernel
theorem dX5_heatersOf_10 : decode cX5_heatersOf 10 = .ok (.iaload, 1) := by decide +kernel
theorem dX5_heatersOf_11 : decode cX5_heatersOf 11 = .ok (.if_icmp .ge 29, 3) := by decide +kernel
theorem dX5_heatersOf_14 : decode cX5_heatersOf 14 = .ok (.iload_n 2, 1) := by decide +kernel
theorem dX5_heatersOf_15 : decode cX5_heatersOf 15 = .ok (.aload_n 0, 1) := by decide +kernel
theorem dX5_heatersOf_16 : decode cX5_heatersOf 16 = .ok (.iload_n 3, 1) := by decide +kernel
theorem dX5_heatersOf_17 : decode cX5_heatersOf 17 = .ok (.iconst 4, 1) := by decide +kernel
theorem dX5_heatersOf_18 : decode cX5_heatersOf 18 = .ok (.invokevirtual 120, 3) := by decide +kernel
theorem dX5_heatersOf_21 : decode cX5_heatersOf 21 = .ok (.iload_n 1, 1) := by decide +kernel
theorem dX5_heatersOf_22 : decode cX5_heatersOf 22 = .ok (.if_icmp .ne 9, 3) := by decide +kernel
theorem dX5_heatersOf_25 : decode cX5_heatersOf 25 = .ok (.iconst 1, 1) := by decide +kernel
theorem dX5_heatersOf_26 : decode cX5_heatersOf 26 = .ok (.iload_n 3, 1) := by decide +kernel
theorem dX5_heatersOf_27 : decode cX5_heatersOf 27 = .ok (.ishl, 1) := by decide +kernel
theorem dX5_heatersOf_28 : decode cX5_heatersOf 28 = .ok (.goto 4, 3) := by decide +kernel
theorem dX5_heatersOf_31 : decode cX5_heatersOf 31 = .ok (.iconst 0, 1) := by decide +kernel
theorem dX5_heatersOf_32 : decode cX5_heatersOf 32 = .ok (.ior, 1) := by decide +kernel
theorem dX5_heatersOf_33 : decode cX5_heatersOf 33 = .ok (.istore_n 2, 1) := by decide +kernel
theorem dX5_heatersOf_34 : decode cX5_heatersOf 34 = .ok (.iinc 3 1, 3) := by decide +kernel
theorem dX5_heatersOf_37 : decode cX5_heatersOf 37 = .ok (.goto (-33), 3) := by decide +kernel
theorem dX5_heatersOf_40 : decode cX5_heatersOf 40 = .ok (.iload_n 2, 1) := by decide +kernel
theorem dX5_heatersOf_41 : decode cX5_heatersOf 41 = .ok (.ireturn, 1) := by decide +kernel
theorem dX5_heaters_0 : decode cX5_heaters 0 = .ok (.aload_n 0, 1) := by decide +kernel
theorem dX5_heaters_1 : decode cX5_heaters 1 = .ok (.iload_n 1, 1) := by decide +kernel
theorem dX5_heaters_2 : decode cX5_heaters 2 = .ok (.invokevirtual 128, 3) := by decide +kernel
theorem dX5_heaters_5 : decode cX5_heaters 5 = .ok (.ifCond .eq 11, 3) := by decide +kernel
theorem dX5_heaters_8 : decode cX5_heaters 8 = .ok (.aload_n 0, 1) := by decide +kernel
theorem dX5_heaters_9 : decode cX5_heaters 9 = .ok (.iload_n 1, 1) := by decide +kernel
theorem dX5_heaters_10 : decode cX5_heaters 10 = .ok (.invokevirtual 137, 3) := by decide +kernel
theorem dX5_heaters_13 : decode cX5_heaters 13 = .ok (.goto 9, 3) := by decide +kernel
theorem dX5_heaters_16 : decode cX5_heaters 16 = .ok (.aload_n 0, 1) := by decide +kernel
theorem dX5_heaters_17 : decode cX5_heaters 17 = .ok (.ldc 92, 2) := by decide +kernel
theorem dX5_heaters_19 : decode cX5_heaters 19 = .ok (.invokevirtual 109, 3) := by decide +kernel
theorem dX5_heaters_22 : decode cX5_heaters 22 = .ok (.ireturn, 1) := by decide +kernel
theorem dX5_reach_0 : decode cX5_reach 0 = .ok (.aload_n 0, 1) := by decide +kernel
theorem dX5_reach_1 : decode cX5_reach 1 = .ok (.iload_n 1, 1) := by decide +kernel
theorem dX5_reach_2 : decode cX5_reach 2 = .ok (.invokevirtual 128, 3) := by decide +kernel
theorem dX5_reach_5 : decode cX5_reach 5 = .ok (.ifCond .ne 10, 3) := by decide +kernel
theorem dX5_reach_8 : decode cX5_reach 8 = .ok (.aload_n 0, 1) := by decide +kernel
theorem dX5_reach_9 : decode cX5_reach 9 = .ok (.ldc 92, 2) := by decide +kernel
theorem dX5_reach_11 : decode cX5_reach 11 = .ok (.invokevirtual 109, 3) := by decide +kernel
theorem dX5_reach_14 : decode cX5_reach 14 = .ok (.ireturn, 1) := by decide +kernel
theorem dX5_reach_15 : decode cX5_reach 15 = .ok (.iconst 0, 1) := by decide +kernel
theorem dX5_reach_16 : decode cX5_reach 16 = .ok (.istore_n 2, 1) := by decide +kernel
theorem dX5_reach_17 : decode cX5_reach 17 = .ok (.aload_n 0, 1) := by decide +kernel
theorem dX5_reach_18 : decode cX5_reach 18 = .ok (.iload_n 1, 1) := by decide +kernel
theorem dX5_reach_19 : decode cX5_reach 19 = .ok (.iconst 4, 1) := by decide +kernel
theorem dX5_reach_20 : decode cX5_reach 20 = .ok (.invokevirtual 120, 3) := by decide +kernel
theorem dX5_reach_23 : decode cX5_reach 23 = .ok (.istore_n 3, 1) := by decide +kernel
theorem dX5_reach_24 : decode cX5_reach 24 = .ok (.aload_n 0, 1) := by decide +kernel
theorem dX5_reach_25 : decode cX5_reach 25 = .ok (.iload_n 3, 1) := by decide +kernel
theorem dX5_reach_26 : decode cX5_reach 26 = .ok (.invokevirtual 128, 3) := by decide +kernel
theorem dX5_reach_29 : decode cX5_reach 29 = .ok (.ifCond .eq 27, 3) := by decide +kernel
theorem dX5_reach_32 : decode cX5_reach 32 = .ok (.iload_n 2, 1) := by decide +kernel
theorem dX5_reach_33 : decode cX5_reach 33 = .ok (.iload_n 3, 1) := by decide +kernel
theorem dX5_reach_34 : decode cX5_reach 34 = .ok (.invokestatic 140, 3) := by decide +kernel
theorem dX5_reach_37 : decode cX5_reach 37 = .ok (.ifCond .ne 19, 3) := by decide +kernel
theorem dX5_reach_40 : decode cX5_reach 40 = .ok (.iload_n 2, 1) := by decide +kernel
theorem dX5_reach_41 : decode cX5_reach 41 = .ok (.iconst 1, 1) := by decide +kernel
theorem dX5_reach_42 : decode cX5_reach 42 = .ok (.iload_n 3, 1) := by decide +kernel
theorem dX5_reach_43 : decode cX5_reach 43 = .ok (.ishl, 1) := by decide +kernel
theorem dX5_reach_44 : decode cX5_reach 44 = .ok (.ior, 1) := by decide +kernel
theorem dX5_reach_45 : decode cX5_reach 45 = .ok (.istore_n 2, 1) := by decide +kernel
theorem dX5_reach_46 : decode cX5_reach 46 = .ok (.aload_n 0, 1) := by decide +kernel
theorem dX5_reach_47 : decode cX5_reach 47 = .ok (.iload_n 3, 1) := by decide +kernel
theorem dX5_reach_48 : decode cX5_reach 48 = .ok (.iconst 4, 1) := by decide +kernel
theorem dX5_reach_49 : decode cX5_reach 49 = .ok (.invokevirtual 120, 3) := by decide +kernel
theorem dX5_reach_52 : decode cX5_reach 52 = .ok (.istore_n 3, 1) := by decide +kernel
theorem dX5_reach_53 : decode cX5_reach 53 = .ok (.goto (-29), 3) := by decide +kernel
theorem dX5_reach_56 : decode cX5_reach 56 = .ok (.iload_n 2, 1) := by decide +kernel
theorem dX5_reach_57 : decode cX5_reach 57 = .ok (.ireturn, 1) := by decide +kernel
theorem dX5_swap_0 : decode cX5_swap 0 = .ok (.aload_n 0, 1) := by decide +kernel
theorem dX5_swap_1 : decode cX5_swap 1 = .ok (.getfield 9, 3) := by decide +kernel
theorem dX5_swap_4 : decode cX5_swap 4 = .ok (.iload_n 2, 1) := by decide +kernel
theorem dX5_swap_5 : decode cX5_swap 5 = .ok (.iload_n 3, 1) := by decide +kernel
theorem dX5_swap_6 : decode cX5_swap 6 = .ok (.invokestatic 101, 3) := by decide +kernel
theorem dX5_swap_9 : decode cX5_swap 9 = .ok (.aload_n 0, 1) := by decide +kernel
theorem dX5_swap_10 : decode cX5_swap 10 = .ok (.iload_n 1, 1) := by decide +kernel
theorem dX5_swap_11 : decode cX5_swap 11 = .ok (.iload_n 3, 1) := by decide +kernel
theorem dX5_swap_12 : decode cX5_swap 12 = .ok (.invokestatic 101, 3) := by decide +kernel
theorem dX5_swap_15 : decode cX5_swap 15 = .ok (.aload_n 0, 1) := by decide +kernel
theorem dX5_swap_16 : decode cX5_swap 16 = .ok (.iload_n 2, 1) := by decide +kernel
theorem dX5_swap_17 : decode cX5_swap 17 = .ok (.iload_n 3, 1) := by decide +kernel
theorem dX5_swap_18 : decode cX5_swap 18 = .ok (.invokevirtual 120, 3) := by decide +kernel
theorem dX5_swap_21 : decode cX5_swap 21 = .ok (.invokevirtual 134, 3) := by decide +kernel
theorem dX5_swap_24 : decode cX5_swap 24 = .ok (.iastore, 1) := by decide +kernel
theorem dX5_swap_25 : decode cX5_swap 25 = .ok (.return_, 1) := by decide +kernel
theorem dX5_moved_0 : decode cX5_moved 0 = .ok (.aload_n 0, 1) := by decide +kernel
theorem dX5_moved_1 : decode cX5_moved 1 = .ok (.iload_n 1, 1) := by decide +kernel
theorem dX5_moved_2 : decode cX5_moved 2 = .ok (.iload_n 2, 1) := by decide +kernel
theorem dX5_moved_3 : decode cX5_moved 3 = .ok (.iconst 0, 1) := by decide +kernel
theorem dX5_moved_4 : decode cX5_moved 4 = .ok (.invokevirtual 144, 3) := by decide +kernel
theorem dX5_moved_7 : decode cX5_moved 7 = .ok (.aload_n 0, 1) := by decide +kernel
theorem dX5_moved_8 : decode cX5_moved 8 = .ok (.iload_n 1, 1) := by decide +kernel
theorem dX5_moved_9 : decode cX5_moved 9 = .ok (.iload_n 2, 1) := by decide +kernel
theorem dX5_moved_10 : decode cX5_moved 10 = .ok (.iconst 5, 1) := by decide +kernel
theorem dX5_moved_11 : decode cX5_moved 11 = .ok (.invokevirtual 144, 3) := by decide +kernel
theorem dX5_moved_14 : decode cX5_moved 14 = .ok (.aload_n 0, 1) := by decide +kernel
theorem dX5_moved_15 : decode cX5_moved 15 = .ok (.iload_n 1, 1) := by decide +kernel
theorem dX5_moved_16 : decode cX5_moved 16 = .ok (.iload_n 2, 1) := by decide +kernel
theorem dX5_moved_17 : decode cX5_moved 17 = .ok (.bipush 8, 2) := by decide +kernel
theorem dX5_moved_19 : decode cX5_moved 19 = .ok (.invokevirtual 144, 3) := by decide +kernel
theorem dX5_moved_22 : decode cX5_moved 22 = .ok (.iconst 1, 1) := by decide +kernel
theorem dX5_moved_23 : decode cX5_moved 23 = .ok (.ireturn, 1) := by decide +kernel
theorem dX5_move_0 : decode cX5_move 0 = .ok (.aload_n 0, 1) := by decide +kernel
theorem dX5_move_1 : decode cX5_move 1 = .ok (.iload_n 1, 1) := by decide +kernel
theorem dX5_move_2 : decode cX5_move 2 = .ok (.invokevirtual 128, 3) := by decide +kernel
theorem dX5_move_5 : decode cX5_move 5 = .ok (.ifCond .eq 20, 3) := by decide +kernel
theorem dX5_move_8 : decode cX5_move 8 = .ok (.aload_n 0, 1) := by decide +kernel
theorem dX5_move_9 : decode cX5_move 9 = .ok (.iload_n 2, 1) := by decide +kernel
theorem dX5_move_10 : decode cX5_move 10 = .ok (.invokevirtual 128, 3) := by decide +kernel
theorem dX5_move_13 : decode cX5_move 13 = .ok (.ifCond .eq 12, 3) := by decide +kernel
theorem dX5_move_16 : decode cX5_move 16 = .ok (.aload_n 0, 1) := by decide +kernel
theorem dX5_move_17 : decode cX5_move 17 = .ok (.iload_n 1, 1) := by decide +kernel
theorem dX5_move_18 : decode cX5_move 18 = .ok (.iload_n 2, 1) := by decide +kernel
theorem dX5_move_19 : decode cX5_move 19 = .ok (.invokevirtual 148, 3) := by decide +kernel
theorem dX5_move_22 : decode cX5_move 22 = .ok (.goto 9, 3) := by decide +kernel
theorem dX5_move_25 : decode cX5_move 25 = .ok (.aload_n 0, 1) := by decide +kernel
theorem dX5_move_26 : decode cX5_move 26 = .ok (.ldc 92, 2) := by decide +kernel
theorem dX5_move_28 : decode cX5_move 28 = .ok (.invokevirtual 109, 3) := by decide +kernel
theorem dX5_move_31 : decode cX5_move 31 = .ok (.ireturn, 1) := by decide +kernel
theorem dX5_hour_0 : decode cX5_hour 0 = .ok (.iconst 0, 1) := by decide +kernel
theorem dX5_hour_1 : decode cX5_hour 1 = .ok (.istore_n 1, 1) := by decide +kernel
theorem dX5_hour_2 : decode cX5_hour 2 = .ok (.iconst 0, 1) := by decide +kernel
theorem dX5_hour_3 : decode cX5_hour 3 = .ok (.istore_n 2, 1) := by decide +kernel
theorem dX5_hour_4 : decode cX5_hour 4 = .ok (.iload_n 2, 1) := by decide +kernel
theorem dX5_hour_5 : decode cX5_hour 5 = .ok (.aload_n 0, 1) := by decide +kernel
theorem dX5_hour_6 : decode cX5_hour 6 = .ok (.getfield 9, 3) := by decide +kernel
theorem dX5_hour_9 : decode cX5_hour 9 = .ok (.iconst 2, 1) := by decide +kernel
theorem dX5_hour_10 : decode cX5_hour 10 = .ok (.iaload, 1) := by decide +kernel
theorem dX5_hour_11 : decode cX5_hour 11 = .ok (.if_icmp .ge 52, 3) := by decide +kernel
theorem dX5_hour_14 : decode cX5_hour 14 = .ok (.aload_n 0, 1) := by decide +kernel
theorem dX5_hour_15 : decode cX5_hour 15 = .ok (.getfield 28, 3) := by decide +kernel
theorem dX5_hour_18 : decode cX5_hour 18 = .ok (.iload_n 2, 1) := by decide +kernel
theorem dX5_hour_19 : decode cX5_hour 19 = .ok (.aload_n 0, 1) := by decide +kernel
theorem dX5_hour_20 : decode cX5_hour 20 = .ok (.iload_n 2, 1) := by decide +kernel
theorem dX5_hour_21 : decode cX5_hour 21 = .ok (.iconst 5, 1) := by decide +kernel
theorem dX5_hour_22 : decode cX5_hour 22 = .ok (.invokevirtual 120, 3) := by decide +kernel
theorem dX5_hour_25 : decode cX5_hour 25 = .ok (.iconst 1, 1) := by decide +kernel
theorem dX5_hour_26 : decode cX5_hour 26 = .ok (.if_icmp .ne 7, 3) := by decide +kernel
theorem dX5_hour_29 : decode cX5_hour 29 = .ok (.iconst 0, 1) := by decide +kernel
theorem dX5_hour_30 : decode cX5_hour 30 = .ok (.goto 17, 3) := by decide +kernel
theorem dX5_hour_33 : decode cX5_hour 33 = .ok (.aload_n 0, 1) := by decide +kernel
theorem dX5_hour_34 : decode cX5_hour 34 = .ok (.iload_n 2, 1) := by decide +kernel
theorem dX5_hour_35 : decode cX5_hour 35 = .ok (.invokevirtual 131, 3) := by decide +kernel
theorem dX5_hour_38 : decode cX5_hour 38 = .ok (.aload_n 0, 1) := by decide +kernel
theorem dX5_hour_39 : decode cX5_hour 39 = .ok (.iload_n 2, 1) := by decide +kernel
theorem dX5_hour_40 : decode cX5_hour 40 = .ok (.iconst 2, 1) := by decide +kernel
theorem dX5_hour_41 : decode cX5_hour 41 = .ok (.invokevirtual 120, 3) := by decide +kernel
theorem dX5_hour_44 : decode cX5_hour 44 = .ok (.invokestatic 123, 3) := by decide +kernel
theorem dX5_hour_47 : decode cX5_hour 47 = .ok (.iastore, 1) := by decide +kernel
theorem dX5_hour_48 : decode cX5_hour 48 = .ok (.iload_n 1, 1) := by decide +kernel
theorem dX5_hour_49 : decode cX5_hour 49 = .ok (.aload_n 0, 1) := by decide +kernel
theorem dX5_hour_50 : decode cX5_hour 50 = .ok (.getfield 28, 3) := by decide +kernel
theorem dX5_hour_53 : decode cX5_hour 53 = .ok (.iload_n 2, 1) := by decide +kernel
theorem dX5_hour_54 : decode cX5_hour 54 = .ok (.iaload, 1) := by decide +kernel
theorem dX5_hour_55 : decode cX5_hour 55 = .ok (.iadd, 1) := by decide +kernel
theorem dX5_hour_56 : decode cX5_hour 56 = .ok (.istore_n 1, 1) := by decide +kernel
theorem dX5_hour_57 : decode cX5_hour 57 = .ok (.iinc 2 1, 3) := by decide +kernel
theorem dX5_hour_60 : decode cX5_hour 60 = .ok (.goto (-56), 3) := by decide +kernel
theorem dX5_hour_63 : decode cX5_hour 63 = .ok (.iconst 0, 1) := by decide +kernel
theorem dX5_hour_64 : decode cX5_hour 64 = .ok (.istore_n 2, 1) := by decide +kernel
theorem dX5_hour_65 : decode cX5_hour 65 = .ok (.iload_n 2, 1) := by decide +kernel
theorem dX5_hour_66 : decode cX5_hour 66 = .ok (.aload_n 0, 1) := by decide +kernel
theorem dX5_hour_67 : decode cX5_hour 67 = .ok (.getfield 9, 3) := by decide +kernel
theorem dX5_hour_70 : decode cX5_hour 70 = .ok (.iconst 2, 1) := by decide +kernel
theorem dX5_hour_71 : decode cX5_hour 71 = .ok (.iaload, 1) := by decide +kernel
theorem dX5_hour_72 : decode cX5_hour 72 = .ok (.if_icmp .ge 126, 3) := by decide +kernel
theorem dX5_hour_75 : decode cX5_hour 75 = .ok (.aload_n 0, 1) := by decide +kernel
theorem dX5_hour_76 : decode cX5_hour 76 = .ok (.getfield 9, 3) := by decide +kernel
theorem dX5_hour_79 : decode cX5_hour 79 = .ok (.iload_n 2, 1) := by decide +kernel
theorem dX5_hour_80 : decode cX5_hour 80 = .ok (.iconst 2, 1) := by decide +kernel
theorem dX5_hour_81 : decode cX5_hour 81 = .ok (.invokestatic 101, 3) := by decide +kernel
theorem dX5_hour_84 : decode cX5_hour 84 = .ok (.dup2, 1) := by decide +kernel
theorem dX5_hour_85 : decode cX5_hour 85 = .ok (.iaload, 1) := by decide +kernel
theorem dX5_hour_86 : decode cX5_hour 86 = .ok (.aload_n 0, 1) := by decide +kernel
theorem dX5_hour_87 : decode cX5_hour 87 = .ok (.getfield 28, 3) := by decide +kernel
theorem dX5_hour_90 : decode cX5_hour 90 = .ok (.iload_n 2, 1) := by decide +kernel
theorem dX5_hour_91 : decode cX5_hour 91 = .ok (.iaload, 1) := by decide +kernel
theorem dX5_hour_92 : decode cX5_hour 92 = .ok (.isub, 1) := by decide +kernel
theorem dX5_hour_93 : decode cX5_hour 93 = .ok (.iastore, 1) := by decide +kernel
theorem dX5_hour_94 : decode cX5_hour 94 = .ok (.aload_n 0, 1) := by decide +kernel
theorem dX5_hour_95 : decode cX5_hour 95 = .ok (.getfield 9, 3) := by decide +kernel
theorem dX5_hour_98 : decode cX5_hour 98 = .ok (.iload_n 2, 1) := by decide +kernel
theorem dX5_hour_99 : decode cX5_hour 99 = .ok (.bipush 8, 2) := by decide +kernel
theorem dX5_hour_101 : decode cX5_hour 101 = .ok (.invokestatic 101, 3) := by decide +kernel
theorem dX5_hour_104 : decode cX5_hour 104 = .ok (.aload_n 0, 1) := by decide +kernel
theorem dX5_hour_105 : decode cX5_hour 105 = .ok (.getfield 28, 3) := by decide +kernel
theorem dX5_hour_108 : decode cX5_hour 108 = .ok (.iload_n 2, 1) := by decide +kernel
theorem dX5_hour_109 : decode cX5_hour 109 = .ok (.iaload, 1) := by decide +kernel
theorem dX5_hour_110 : decode cX5_hour 110 = .ok (.iastore, 1) := by decide +kernel
theorem dX5_hour_111 : decode cX5_hour 111 = .ok (.aload_n 0, 1) := by decide +kernel
theorem dX5_hour_112 : decode cX5_hour 112 = .ok (.getfield 9, 3) := by decide +kernel
theorem dX5_hour_115 : decode cX5_hour 115 = .ok (.iload_n 2, 1) := by decide +kernel
theorem dX5_hour_116 : decode cX5_hour 116 = .ok (.bipush 7, 2) := by decide +kernel
theorem dX5_hour_118 : decode cX5_hour 118 = .ok (.invokestatic 101, 3) := by decide +kernel
theorem dX5_hour_121 : decode cX5_hour 121 = .ok (.aload_n 0, 1) := by decide +kernel
theorem dX5_hour_122 : decode cX5_hour 122 = .ok (.iload_n 2, 1) := by decide +kernel
theorem dX5_hour_123 : decode cX5_hour 123 = .ok (.invokevirtual 150, 3) := by decide +kernel
theorem dX5_hour_126 : decode cX5_hour 126 = .ok (.iastore, 1) := by decide +kernel
theorem dX5_hour_127 : decode cX5_hour 127 = .ok (.sipush 300, 3) := by decide +kernel
theorem dX5_hour_130 : decode cX5_hour 130 = .ok (.aload_n 0, 1) := by decide +kernel
theorem dX5_hour_131 : decode cX5_hour 131 = .ok (.iload_n 2, 1) := by decide +kernel
theorem dX5_hour_132 : decode cX5_hour 132 = .ok (.iconst 1, 1) := by decide +kernel
theorem dX5_hour_133 : decode cX5_hour 133 = .ok (.invokevirtual 120, 3) := by decide +kernel
theorem dX5_hour_136 : decode cX5_hour 136 = .ok (.bipush 15, 2) := by decide +kernel
theorem dX5_hour_138 : decode cX5_hour 138 = .ok (.aload_n 0, 1) := by decide +kernel
theorem dX5_hour_139 : decode cX5_hour 139 = .ok (.iload_n 2, 1) := by decide +kernel
theorem dX5_hour_140 : decode cX5_hour 140 = .ok (.bipush 7, 2) := by decide +kernel
theorem dX5_hour_142 : decode cX5_hour 142 = .ok (.invokevirtual 120, 3) := by decide +kernel
theorem dX5_hour_145 : decode cX5_hour 145 = .ok (.imul, 1) := by decide +kernel
theorem dX5_hour_146 : decode cX5_hour 146 = .ok (.iadd, 1) := by decide +kernel
theorem dX5_hour_147 : decode cX5_hour 147 = .ok (.invokestatic 123, 3) := by decide +kernel
theorem dX5_hour_150 : decode cX5_hour 150 = .ok (.istore_n 3, 1) := by decide +kernel
theorem dX5_hour_151 : decode cX5_hour 151 = .ok (.aload_n 0, 1) := by decide +kernel
theorem dX5_hour_152 : decode cX5_hour 152 = .ok (.getfield 9, 3) := by decide +kernel
theorem dX5_hour_155 : decode cX5_hour 155 = .ok (.iload_n 2, 1) := by decide +kernel
theorem dX5_hour_156 : decode cX5_hour 156 = .ok (.iconst 1, 1) := by decide +kernel
theorem dX5_hour_157 : decode cX5_hour 157 = .ok (.invokestatic 101, 3) := by decide +kernel
theorem dX5_hour_160 : decode cX5_hour 160 = .ok (.iload_n 3, 1) := by decide +kernel
theorem dX5_hour_161 : decode cX5_hour 161 = .ok (.aload_n 0, 1) := by decide +kernel
theorem dX5_hour_162 : decode cX5_hour 162 = .ok (.getfield 9, 3) := by decide +kernel
theorem dX5_hour_165 : decode cX5_hour 165 = .ok (.iconst 1, 1) := by decide +kernel
theorem dX5_hour_166 : decode cX5_hour 166 = .ok (.iaload, 1) := by decide +kernel
theorem dX5_hour_167 : decode cX5_hour 167 = .ok (.iload_n 3, 1) := by decide +kernel
theorem dX5_hour_168 : decode cX5_hour 168 = .ok (.if_icmp .ge 21, 3) := by decide +kernel
theorem dX5_hour_171 : decode cX5_hour 171 = .ok (.iload_n 3, 1) := by decide +kernel
theorem dX5_hour_172 : decode cX5_hour 172 = .ok (.aload_n 0, 1) := by decide +kernel
theorem dX5_hour_173 : decode cX5_hour 173 = .ok (.getfield 9, 3) := by decide +kernel
theorem dX5_hour_176 : decode cX5_hour 176 = .ok (.iconst 1, 1) := by decide +kernel
theorem dX5_hour_177 : decode cX5_hour 177 = .ok (.iaload, 1) := by decide +kernel
theorem dX5_hour_178 : decode cX5_hour 178 = .ok (.isub, 1) := by decide +kernel
theorem dX5_hour_179 : decode cX5_hour 179 = .ok (.aload_n 0, 1) := by decide +kernel
theorem dX5_hour_180 : decode cX5_hour 180 = .ok (.iload_n 2, 1) := by decide +kernel
theorem dX5_hour_181 : decode cX5_hour 181 = .ok (.iconst 3, 1) := by decide +kernel
theorem dX5_hour_182 : decode cX5_hour 182 = .ok (.invokevirtual 120, 3) := by decide +kernel
theorem dX5_hour_185 : decode cX5_hour 185 = .ok (.idiv, 1) := by decide +kernel
theorem dX5_hour_186 : decode cX5_hour 186 = .ok (.goto 4, 3) := by decide +kernel
theorem dX5_hour_189 : decode cX5_hour 189 = .ok (.iconst 0, 1) := by decide +kernel
theorem dX5_hour_190 : decode cX5_hour 190 = .ok (.isub, 1) := by decide +kernel
theorem dX5_hour_191 : decode cX5_hour 191 = .ok (.iastore, 1) := by decide +kernel
theorem dX5_hour_192 : decode cX5_hour 192 = .ok (.iinc 2 1, 3) := by decide +kernel
theorem dX5_hour_195 : decode cX5_hour 195 = .ok (.goto (-130), 3) := by decide +kernel
theorem dX5_hour_198 : decode cX5_hour 198 = .ok (.aload_n 0, 1) := by decide +kernel
theorem dX5_hour_199 : decode cX5_hour 199 = .ok (.getfield 9, 3) := by decide +kernel
theorem dX5_hour_202 : decode cX5_hour 202 = .ok (.iconst 0, 1) := by decide +kernel
theorem dX5_hour_203 : decode cX5_hour 203 = .ok (.dup2, 1) := by decide +kernel
theorem dX5_hour_204 : decode cX5_hour 204 = .ok (.iaload, 1) := by decide +kernel
theorem dX5_hour_205 : decode cX5_hour 205 = .ok (.iconst 1, 1) := by decide +kernel
theorem dX5_hour_206 : decode cX5_hour 206 = .ok (.iadd, 1) := by decide +kernel
theorem dX5_hour_207 : decode cX5_hour 207 = .ok (.iastore, 1) := by decide +kernel
theorem dX5_hour_208 : decode cX5_hour 208 = .ok (.iload_n 1, 1) := by decide +kernel
theorem dX5_hour_209 : decode cX5_hour 209 = .ok (.ireturn, 1) := by decide +kernel
theorem dX5_gets_0 : decode cX5_gets 0 = .ok (.iconst 0, 1) := by decide +kernel
theorem dX5_gets_1 : decode cX5_gets 1 = .ok (.istore_n 2, 1) := by decide +kernel
theorem dX5_gets_2 : decode cX5_gets 2 = .ok (.iconst 0, 1) := by decide +kernel
theorem dX5_gets_3 : decode cX5_gets 3 = .ok (.istore_n 3, 1) := by decide +kernel
theorem dX5_gets_4 : decode cX5_gets 4 = .ok (.iload_n 3, 1) := by decide +kernel
theorem dX5_gets_5 : decode cX5_gets 5 = .ok (.aload_n 0, 1) := by decide +kernel
theorem dX5_gets_6 : decode cX5_gets 6 = .ok (.getfield 9, 3) := by decide +kernel
theorem dX5_gets_9 : decode cX5_gets 9 = .ok (.iconst 2, 1) := by decide +kernel
theorem dX5_gets_10 : decode cX5_gets 10 = .ok (.iaload, 1) := by decide +kernel
theorem dX5_gets_11 : decode cX5_gets 11 = .ok (.if_icmp .ge 44, 3) := by decide +kernel
theorem dX5_gets_14 : decode cX5_gets 14 = .ok (.iload_n 2, 1) := by decide +kernel
theorem dX5_gets_15 : decode cX5_gets 15 = .ok (.aload_n 0, 1) := by decide +kernel
theorem dX5_gets_16 : decode cX5_gets 16 = .ok (.iload_n 3, 1) := by decide +kernel
theorem dX5_gets_17 : decode cX5_gets 17 = .ok (.iconst 4, 1) := by decide +kernel
theorem dX5_gets_18 : decode cX5_gets 18 = .ok (.invokevirtual 120, 3) := by decide +kernel
theorem dX5_gets_21 : decode cX5_gets 21 = .ok (.iload_n 1, 1) := by decide +kernel
theorem dX5_gets_22 : decode cX5_gets 22 = .ok (.if_icmp .ne 24, 3) := by decide +kernel
theorem dX5_gets_25 : decode cX5_gets 25 = .ok (.iconst 0, 1) := by decide +kernel
theorem dX5_gets_26 : decode cX5_gets 26 = .ok (.aload_n 0, 1) := by decide +kernel
theorem dX5_gets_27 : decode cX5_gets 27 = .ok (.getfield 28, 3) := by decide +kernel
theorem dX5_gets_30 : decode cX5_gets 30 = .ok (.iload_n 3, 1) := by decide +kernel
theorem dX5_gets_31 : decode cX5_gets 31 = .ok (.iaload, 1) := by decide +kernel
theorem dX5_gets_32 : decode cX5_gets 32 = .ok (.aload_n 0, 1) := by decide +kernel
theorem dX5_gets_33 : decode cX5_gets 33 = .ok (.iload_n 3, 1) := by decide +kernel
theorem dX5_gets_34 : decode cX5_gets 34 = .ok (.bipush 6, 2) := by decide +kernel
theorem dX5_gets_36 : decode cX5_gets 36 = .ok (.invokevirtual 120, 3) := by decide +kernel
theorem dX5_gets_39 : decode cX5_gets 39 = .ok (.isub, 1) := by decide +kernel
theorem dX5_gets_40 : decode cX5_gets 40 = .ok (.invokestatic 153, 3) := by decide +kernel
theorem dX5_gets_43 : decode cX5_gets 43 = .ok (.goto 4, 3) := by decide +kernel
theorem dX5_gets_46 : decode cX5_gets 46 = .ok (.iconst 0, 1) := by decide +kernel
theorem dX5_gets_47 : decode cX5_gets 47 = .ok (.iadd, 1) := by decide +kernel
theorem dX5_gets_48 : decode cX5_gets 48 = .ok (.istore_n 2, 1) := by decide +kernel
theorem dX5_gets_49 : decode cX5_gets 49 = .ok (.iinc 3 1, 3) := by decide +kernel
theorem dX5_gets_52 : decode cX5_gets 52 = .ok (.goto (-48), 3) := by decide +kernel
theorem dX5_gets_55 : decode cX5_gets 55 = .ok (.iload_n 2, 1) := by decide +kernel
theorem dX5_gets_56 : decode cX5_gets 56 = .ok (.ireturn, 1) := by decide +kernel
theorem dX5_hoursGo_0 : decode cX5_hoursGo 0 = .ok (.iconst 0, 1) := by decide +kernel
theorem dX5_hoursGo_1 : decode cX5_hoursGo 1 = .ok (.istore_n 2, 1) := by decide +kernel
theorem dX5_hoursGo_2 : decode cX5_hoursGo 2 = .ok (.iconst 0, 1) := by decide +kernel
theorem dX5_hoursGo_3 : decode cX5_hoursGo 3 = .ok (.istore_n 3, 1) := by decide +kernel
theorem dX5_hoursGo_4 : decode cX5_hoursGo 4 = .ok (.iload_n 3, 1) := by decide +kernel
theorem dX5_hoursGo_5 : decode cX5_hoursGo 5 = .ok (.iload_n 1, 1) := by decide +kernel
theorem dX5_hoursGo_6 : decode cX5_hoursGo 6 = .ok (.if_icmp .ge 16, 3) := by decide +kernel
theorem dX5_hoursGo_9 : decode cX5_hoursGo 9 = .ok (.iload_n 2, 1) := by decide +kernel
theorem dX5_hoursGo_10 : decode cX5_hoursGo 10 = .ok (.aload_n 0, 1) := by decide +kernel
theorem dX5_hoursGo_11 : decode cX5_hoursGo 11 = .ok (.invokevirtual 156, 3) := by decide +kernel
theorem dX5_hoursGo_14 : decode cX5_hoursGo 14 = .ok (.iadd, 1) := by decide +kernel
theorem dX5_hoursGo_15 : decode cX5_hoursGo 15 = .ok (.istore_n 2, 1) := by decide +kernel
theorem dX5_hoursGo_16 : decode cX5_hoursGo 16 = .ok (.iinc 3 1, 3) := by decide +kernel
theorem dX5_hoursGo_19 : decode cX5_hoursGo 19 = .ok (.goto (-15), 3) := by decide +kernel
theorem dX5_hoursGo_22 : decode cX5_hoursGo 22 = .ok (.iload_n 2, 1) := by decide +kernel
theorem dX5_hoursGo_23 : decode cX5_hoursGo 23 = .ok (.ireturn, 1) := by decide +kernel
theorem dX5_isTooLate_0 : decode cX5_isTooLate 0 = .ok (.aload_n 0, 1) := by decide +kernel
theorem dX5_isTooLate_1 : decode cX5_isTooLate 1 = .ok (.getfield 9, 3) := by decide +kernel
theorem dX5_isTooLate_4 : decode cX5_isTooLate 4 = .ok (.iconst 0, 1) := by decide +kernel
theorem dX5_isTooLate_5 : decode cX5_isTooLate 5 = .ok (.iaload, 1) := by decide +kernel
theorem dX5_isTooLate_6 : decode cX5_isTooLate 6 = .ok (.iload_n 1, 1) := by decide +kernel
theorem dX5_isTooLate_7 : decode cX5_isTooLate 7 = .ok (.iadd, 1) := by decide +kernel
theorem dX5_isTooLate_8 : decode cX5_isTooLate 8 = .ok (.sipush 9999, 3) := by decide +kernel
theorem dX5_isTooLate_11 : decode cX5_isTooLate 11 = .ok (.if_icmp .le 7, 3) := by decide +kernel
theorem dX5_isTooLate_14 : decode cX5_isTooLate 14 = .ok (.iconst 1, 1) := by decide +kernel
theorem dX5_isTooLate_15 : decode cX5_isTooLate 15 = .ok (.goto 4, 3) := by decide +kernel
theorem dX5_isTooLate_18 : decode cX5_isTooLate 18 = .ok (.iconst 0, 1) := by decide +kernel
theorem dX5_isTooLate_19 : decode cX5_isTooLate 19 = .ok (.ireturn, 1) := by decide +kernel
theorem dX5_hours_0 : decode cX5_hours 0 = .ok (.iload_n 1, 1) := by decide +kernel
theorem dX5_hours_1 : decode cX5_hours 1 = .ok (.iconst 1, 1) := by decide +kernel
theorem dX5_hours_2 : decode cX5_hours 2 = .ok (.bipush 100, 2) := by decide +kernel
theorem dX5_hours_4 : decode cX5_hours 4 = .ok (.invokestatic 97, 3) := by decide +kernel
theorem dX5_hours_7 : decode cX5_hours 7 = .ok (.ifCond .ne 10, 3) := by decide +kernel
theorem dX5_hours_10 : decode cX5_hours 10 = .ok (.aload_n 0, 1) := by decide +kernel
theorem dX5_hours_11 : decode cX5_hours 11 = .ok (.ldc 92, 2) := by decide +kernel
theorem dX5_hours_13 : decode cX5_hours 13 = .ok (.invokevirtual 109, 3) := by decide +kernel
theorem dX5_hours_16 : decode cX5_hours 16 = .ok (.ireturn, 1) := by decide +kernel
theorem dX5_hours_17 : decode cX5_hours 17 = .ok (.aload_n 0, 1) := by decide +kernel
theorem dX5_hours_18 : decode cX5_hours 18 = .ok (.iload_n 1, 1) := by decide +kernel
theorem dX5_hours_19 : decode cX5_hours 19 = .ok (.invokevirtual 160, 3) := by decide +kernel
theorem dX5_hours_22 : decode cX5_hours 22 = .ok (.ifCond .eq 12, 3) := by decide +kernel
theorem dX5_hours_25 : decode cX5_hours 25 = .ok (.aload_n 0, 1) := by decide +kernel
theorem dX5_hours_26 : decode cX5_hours 26 = .ok (.ldc 163, 2) := by decide +kernel
theorem dX5_hours_28 : decode cX5_hours 28 = .ok (.invokevirtual 109, 3) := by decide +kernel
theorem dX5_hours_31 : decode cX5_hours 31 = .ok (.goto 8, 3) := by decide +kernel
theorem dX5_hours_34 : decode cX5_hours 34 = .ok (.aload_n 0, 1) := by decide +kernel
theorem dX5_hours_35 : decode cX5_hours 35 = .ok (.iload_n 1, 1) := by decide +kernel
theorem dX5_hours_36 : decode cX5_hours 36 = .ok (.invokevirtual 164, 3) := by decide +kernel
theorem dX5_hours_39 : decode cX5_hours 39 = .ok (.ireturn, 1) := by decide +kernel
theorem dX5_colds_0 : decode cX5_colds 0 = .ok (.iconst 0, 1) := by decide +kernel
theorem dX5_colds_1 : decode cX5_colds 1 = .ok (.istore_n 1, 1) := by decide +kernel
theorem dX5_colds_2 : decode cX5_colds 2 = .ok (.iconst 0, 1) := by decide +kernel
theorem dX5_colds_3 : decode cX5_colds 3 = .ok (.istore_n 2, 1) := by decide +kernel
theorem dX5_colds_4 : decode cX5_colds 4 = .ok (.iload_n 2, 1) := by decide +kernel
theorem dX5_colds_5 : decode cX5_colds 5 = .ok (.aload_n 0, 1) := by decide +kernel
theorem dX5_colds_6 : decode cX5_colds 6 = .ok (.getfield 9, 3) := by decide +kernel
theorem dX5_colds_9 : decode cX5_colds 9 = .ok (.iconst 2, 1) := by decide +kernel
theorem dX5_colds_10 : decode cX5_colds 10 = .ok (.iaload, 1) := by decide +kernel
theorem dX5_colds_11 : decode cX5_colds 11 = .ok (.if_icmp .ge 30, 3) := by decide +kernel
theorem dX5_colds_14 : decode cX5_colds 14 = .ok (.iload_n 1, 1) := by decide +kernel
theorem dX5_colds_15 : decode cX5_colds 15 = .ok (.aload_n 0, 1) := by decide +kernel
theorem dX5_colds_16 : decode cX5_colds 16 = .ok (.iload_n 2, 1) := by decide +kernel
theorem dX5_colds_17 : decode cX5_colds 17 = .ok (.iconst 1, 1) := by decide +kernel
theorem dX5_colds_18 : decode cX5_colds 18 = .ok (.invokevirtual 120, 3) := by decide +kernel
theorem dX5_colds_21 : decode cX5_colds 21 = .ok (.bipush 60, 2) := by decide +kernel
theorem dX5_colds_23 : decode cX5_colds 23 = .ok (.if_icmp .ge 9, 3) := by decide +kernel
theorem dX5_colds_26 : decode cX5_colds 26 = .ok (.iconst 1, 1) := by decide +kernel
theorem dX5_colds_27 : decode cX5_colds 27 = .ok (.iload_n 2, 1) := by decide +kernel
theorem dX5_colds_28 : decode cX5_colds 28 = .ok (.ishl, 1) := by decide +kernel
theorem dX5_colds_29 : decode cX5_colds 29 = .ok (.goto 4, 3) := by decide +kernel
theorem dX5_colds_32 : decode cX5_colds 32 = .ok (.iconst 0, 1) := by decide +kernel
theorem dX5_colds_33 : decode cX5_colds 33 = .ok (.ior, 1) := by decide +kernel
theorem dX5_colds_34 : decode cX5_colds 34 = .ok (.istore_n 1, 1) := by decide +kernel
theorem dX5_colds_35 : decode cX5_colds 35 = .ok (.iinc 2 1, 3) := by decide +kernel
theorem dX5_colds_38 : decode cX5_colds 38 = .ok (.goto (-34), 3) := by decide +kernel
theorem dX5_colds_41 : decode cX5_colds 41 = .ok (.iload_n 1, 1) := by decide +kernel
theorem dX5_colds_42 : decode cX5_colds 42 = .ok (.ireturn, 1) := by decide +kernel
theorem dX5_sum_0 : decode cX5_sum 0 = .ok (.iconst 0, 1) := by decide +kernel
theorem dX5_sum_1 : decode cX5_sum 1 = .ok (.istore_n 2, 1) := by decide +kernel
theorem dX5_sum_2 : decode cX5_sum 2 = .ok (.iconst 0, 1) := by decide +kernel
theorem dX5_sum_3 : decode cX5_sum 3 = .ok (.istore_n 3, 1) := by decide +kernel
theorem dX5_sum_4 : decode cX5_sum 4 = .ok (.iload_n 3, 1) := by decide +kernel
theorem dX5_sum_5 : decode cX5_sum 5 = .ok (.aload_n 0, 1) := by decide +kernel
theorem dX5_sum_6 : decode cX5_sum 6 = .ok (.getfield 9, 3) := by decide +kernel
theorem dX5_sum_9 : decode cX5_sum 9 = .ok (.iconst 2, 1) := by decide +kernel
theorem dX5_sum_10 : decode cX5_sum 10 = .ok (.iaload, 1) := by decide +kernel
theorem dX5_sum_11 : decode cX5_sum 11 = .ok (.if_icmp .ge 18, 3) := by decide +kernel
theorem dX5_sum_14 : decode cX5_sum 14 = .ok (.iload_n 2, 1) := by decide +kernel
theorem dX5_sum_15 : decode cX5_sum 15 = .ok (.aload_n 0, 1) := by decide +kernel
theorem dX5_sum_16 : decode cX5_sum 16 = .ok (.iload_n 3, 1) := by decide +kernel
theorem dX5_sum_17 : decode cX5_sum 17 = .ok (.iload_n 1, 1) := by decide +kernel
theorem dX5_sum_18 : decode cX5_sum 18 = .ok (.invokevirtual 120, 3) := by decide +kernel
theorem dX5_sum_21 : decode cX5_sum 21 = .ok (.iadd, 1) := by decide +kernel
theorem dX5_sum_22 : decode cX5_sum 22 = .ok (.istore_n 2, 1) := by decide +kernel
theorem dX5_sum_23 : decode cX5_sum 23 = .ok (.iinc 3 1, 3) := by decide +kernel
theorem dX5_sum_26 : decode cX5_sum 26 = .ok (.goto (-22), 3) := by decide +kernel
theorem dX5_sum_29 : decode cX5_sum 29 = .ok (.iload_n 2, 1) := by decide +kernel
theorem dX5_sum_30 : decode cX5_sum 30 = .ok (.ireturn, 1) := by decide +kernel
theorem dX5_coldest_0 : decode cX5_coldest 0 = .ok (.iconst (-1), 1) := by decide +kernel
theorem dX5_coldest_1 : decode cX5_coldest 1 = .ok (.istore_n 1, 1) := by decide +kernel
theorem dX5_coldest_2 : decode cX5_coldest 2 = .ok (.aload_n 0, 1) := by decide +kernel
theorem dX5_coldest_3 : decode cX5_coldest 3 = .ok (.getfield 9, 3) := by decide +kernel
theorem dX5_coldest_6 : decode cX5_coldest 6 = .ok (.iconst 2, 1) := by decide +kernel
theorem dX5_coldest_7 : decode cX5_coldest 7 = .ok (.iaload, 1) := by decide +kernel
theorem dX5_coldest_8 : decode cX5_coldest 8 = .ok (.iconst 1, 1) := by decide +kernel
theorem dX5_coldest_9 : decode cX5_coldest 9 = .ok (.isub, 1) := by decide +kernel
theorem dX5_coldest_10 : decode cX5_coldest 10 = .ok (.istore_n 2, 1) := by decide +kernel
theorem dX5_coldest_11 : decode cX5_coldest 11 = .ok (.iload_n 2, 1) := by decide +kernel
theorem dX5_coldest_12 : decode cX5_coldest 12 = .ok (.ifCond .lt 34, 3) := by decide +kernel
theorem dX5_coldest_15 : decode cX5_coldest 15 = .ok (.iload_n 1, 1) := by decide +kernel
theorem dX5_coldest_16 : decode cX5_coldest 16 = .ok (.ifCond .lt 18, 3) := by decide +kernel
theorem dX5_coldest_19 : decode cX5_coldest 19 = .ok (.aload_n 0, 1) := by decide +kernel
theorem dX5_coldest_20 : decode cX5_coldest 20 = .ok (.iload_n 2, 1) := by decide +kernel
theorem dX5_coldest_21 : decode cX5_coldest 21 = .ok (.iconst 1, 1) := by decide +kernel
theorem dX5_coldest_22 : decode cX5_coldest 22 = .ok (.invokevirtual 120, 3) := by decide +kernel
theorem dX5_coldest_25 : decode cX5_coldest 25 = .ok (.aload_n 0, 1) := by decide +kernel
theorem dX5_coldest_26 : decode cX5_coldest 26 = .ok (.iload_n 1, 1) := by decide +kernel
theorem dX5_coldest_27 : decode cX5_coldest 27 = .ok (.iconst 1, 1) := by decide +kernel
theorem dX5_coldest_28 : decode cX5_coldest 28 = .ok (.invokevirtual 120, 3) := by decide +kernel
theorem dX5_coldest_31 : decode cX5_coldest 31 = .ok (.if_icmp .gt 7, 3) := by decide +kernel
theorem dX5_coldest_34 : decode cX5_coldest 34 = .ok (.iload_n 2, 1) := by decide +kernel
theorem dX5_coldest_35 : decode cX5_coldest 35 = .ok (.goto 4, 3) := by decide +kernel
theorem dX5_coldest_38 : decode cX5_coldest 38 = .ok (.iload_n 1, 1) := by decide +kernel
theorem dX5_coldest_39 : decode cX5_coldest 39 = .ok (.istore_n 1, 1) := by decide +kernel
theorem dX5_coldest_40 : decode cX5_coldest 40 = .ok (.iinc 2 (-1), 3) := by decide +kernel
theorem dX5_coldest_43 : decode cX5_coldest 43 = .ok (.goto (-32), 3) := by decide +kernel
theorem dX5_coldest_46 : decode cX5_coldest 46 = .ok (.iload_n 1, 1) := by decide +kernel
theorem dX5_coldest_47 : decode cX5_coldest 47 = .ok (.ireturn, 1) := by decide +kernel
theorem dX5_leastWarmth_0 : decode cX5_leastWarmth 0 = .ok (.aload_n 0, 1) := by decide +kernel
theorem dX5_leastWarmth_1 : decode cX5_leastWarmth 1 = .ok (.invokevirtual 167, 3) := by decide +kernel
theorem dX5_leastWarmth_4 : decode cX5_leastWarmth 4 = .ok (.istore_n 1, 1) := by decide +kernel
theorem dX5_leastWarmth_5 : decode cX5_leastWarmth 5 = .ok (.iload_n 1, 1) := by decide +kernel
theorem dX5_leastWarmth_6 : decode cX5_leastWarmth 6 = .ok (.ifCond .ge 9, 3) := by decide +kernel
theorem dX5_leastWarmth_9 : decode cX5_leastWarmth 9 = .ok (.sipush 300, 3) := by decide +kernel
theorem dX5_leastWarmth_12 : decode cX5_leastWarmth 12 = .ok (.goto 9, 3) := by decide +kernel
theorem dX5_leastWarmth_15 : decode cX5_leastWarmth 15 = .ok (.aload_n 0, 1) := by decide +kernel
theorem dX5_leastWarmth_16 : decode cX5_leastWarmth 16 = .ok (.iload_n 1, 1) := by decide +kernel
theorem dX5_leastWarmth_17 : decode cX5_leastWarmth 17 = .ok (.iconst 1, 1) := by decide +kernel
theorem dX5_leastWarmth_18 : decode cX5_leastWarmth 18 = .ok (.invokevirtual 120, 3) := by decide +kernel
theorem dX5_leastWarmth_21 : decode cX5_leastWarmth 21 = .ok (.ireturn, 1) := by decide +kernel
theorem dX5_now_0 : decode cX5_now 0 = .ok (.iload_n 1, 1) := by decide +kernel
theorem dX5_now_1 : decode cX5_now 1 = .ok (.tableswitch 75 0 5 #[39, 46, 51, 57, 63, 70], 39) := by decide +kernel
theorem dX5_now_40 : decode cX5_now 40 = .ok (.aload_n 0, 1) := by decide +kernel
theorem dX5_now_41 : decode cX5_now 41 = .ok (.getfield 9, 3) := by decide +kernel
theorem dX5_now_44 : decode cX5_now 44 = .ok (.iconst 0, 1) := by decide +kernel
theorem dX5_now_45 : decode cX5_now 45 = .ok (.iaload, 1) := by decide +kernel
theorem dX5_now_46 : decode cX5_now 46 = .ok (.ireturn, 1) := by decide +kernel
theorem dX5_now_47 : decode cX5_now 47 = .ok (.aload_n 0, 1) := by decide +kernel
theorem dX5_now_48 : decode cX5_now 48 = .ok (.invokevirtual 170, 3) := by decide +kernel
theorem dX5_now_51 : decode cX5_now 51 = .ok (.ireturn, 1) := by decide +kernel
theorem dX5_now_52 : decode cX5_now 52 = .ok (.aload_n 0, 1) := by decide +kernel
theorem dX5_now_53 : decode cX5_now 53 = .ok (.iconst 2, 1) := by decide +kernel
theorem dX5_now_54 : decode cX5_now 54 = .ok (.invokevirtual 173, 3) := by decide +kernel
theorem dX5_now_57 : decode cX5_now 57 = .ok (.ireturn, 1) := by decide +kernel
theorem dX5_now_58 : decode cX5_now 58 = .ok (.aload_n 0, 1) := by decide +kernel
theorem dX5_now_59 : decode cX5_now 59 = .ok (.iconst 1, 1) := by decide +kernel
theorem dX5_now_60 : decode cX5_now 60 = .ok (.invokevirtual 173, 3) := by decide +kernel
theorem dX5_now_63 : decode cX5_now 63 = .ok (.ireturn, 1) := by decide +kernel
theorem dX5_now_64 : decode cX5_now 64 = .ok (.aload_n 0, 1) := by decide +kernel
theorem dX5_now_65 : decode cX5_now 65 = .ok (.getfield 9, 3) := by decide +kernel
theorem dX5_now_68 : decode cX5_now 68 = .ok (.iconst 1, 1) := by decide +kernel
theorem dX5_now_69 : decode cX5_now 69 = .ok (.iaload, 1) := by decide +kernel
theorem dX5_now_70 : decode cX5_now 70 = .ok (.ireturn, 1) := by decide +kernel
theorem dX5_now_71 : decode cX5_now 71 = .ok (.aload_n 0, 1) := by decide +kernel
theorem dX5_now_72 : decode cX5_now 72 = .ok (.invokevirtual 167, 3) := by decide +kernel
theorem dX5_now_75 : decode cX5_now 75 = .ok (.ireturn, 1) := by decide +kernel
theorem dX5_now_76 : decode cX5_now 76 = .ok (.aload_n 0, 1) := by decide +kernel
theorem dX5_now_77 : decode cX5_now 77 = .ok (.ldc 92, 2) := by decide +kernel
theorem dX5_now_79 : decode cX5_now 79 = .ok (.invokevirtual 109, 3) := by decide +kernel
theorem dX5_now_82 : decode cX5_now 82 = .ok (.ireturn, 1) := by decide +kernel
theorem dX5_ahead_0 : decode cX5_ahead 0 = .ok (.iload_n 1, 1) := by decide +kernel
theorem dX5_ahead_1 : decode cX5_ahead 1 = .ok (.iconst 0, 1) := by decide +kernel
theorem dX5_ahead_2 : decode cX5_ahead 2 = .ok (.bipush 100, 2) := by decide +kernel
theorem dX5_ahead_4 : decode cX5_ahead 4 = .ok (.invokestatic 97, 3) := by decide +kernel
theorem dX5_ahead_7 : decode cX5_ahead 7 = .ok (.ifCond .eq 22, 3) := by decide +kernel
theorem dX5_ahead_10 : decode cX5_ahead 10 = .ok (.iload_n 2, 1) := by decide +kernel
theorem dX5_ahead_11 : decode cX5_ahead 11 = .ok (.iconst 0, 1) := by decide +kernel
theorem dX5_ahead_12 : decode cX5_ahead 12 = .ok (.iconst 3, 1) := by decide +kernel
theorem dX5_ahead_13 : decode cX5_ahead 13 = .ok (.invokestatic 97, 3) := by decide +kernel
theorem dX5_ahead_16 : decode cX5_ahead 16 = .ok (.ifCond .ne 20, 3) := by decide +kernel
theorem dX5_ahead_19 : decode cX5_ahead 19 = .ok (.aload_n 0, 1) := by decide +kernel
theorem dX5_ahead_20 : decode cX5_ahead 20 = .ok (.iload_n 2, 1) := by decide +kernel
theorem dX5_ahead_21 : decode cX5_ahead 21 = .ok (.iconst 4, 1) := by decide +kernel
theorem dX5_ahead_22 : decode cX5_ahead 22 = .ok (.isub, 1) := by decide +kernel
theorem dX5_ahead_23 : decode cX5_ahead 23 = .ok (.invokevirtual 128, 3) := by decide +kernel
theorem dX5_ahead_26 : decode cX5_ahead 26 = .ok (.ifCond .ne 10, 3) := by decide +kernel
theorem dX5_ahead_29 : decode cX5_ahead 29 = .ok (.aload_n 0, 1) := by decide +kernel
theorem dX5_ahead_30 : decode cX5_ahead 30 = .ok (.ldc 92, 2) := by decide +kernel
theorem dX5_ahead_32 : decode cX5_ahead 32 = .ok (.invokevirtual 109, 3) := by decide +kernel
theorem dX5_ahead_35 : decode cX5_ahead 35 = .ok (.ireturn, 1) := by decide +kernel
theorem dX5_ahead_36 : decode cX5_ahead 36 = .ok (.aload_n 0, 1) := by decide +kernel
theorem dX5_ahead_37 : decode cX5_ahead 37 = .ok (.iload_n 1, 1) := by decide +kernel
theorem dX5_ahead_38 : decode cX5_ahead 38 = .ok (.invokevirtual 160, 3) := by decide +kernel
theorem dX5_ahead_41 : decode cX5_ahead 41 = .ok (.ifCond .eq 10, 3) := by decide +kernel
theorem dX5_ahead_44 : decode cX5_ahead 44 = .ok (.aload_n 0, 1) := by decide +kernel
theorem dX5_ahead_45 : decode cX5_ahead 45 = .ok (.ldc 163, 2) := by decide +kernel
theorem dX5_ahead_47 : decode cX5_ahead 47 = .ok (.invokevirtual 109, 3) := by decide +kernel
theorem dX5_ahead_50 : decode cX5_ahead 50 = .ok (.ireturn, 1) := by decide +kernel
theorem dX5_ahead_51 : decode cX5_ahead 51 = .ok (.aload_n 0, 1) := by decide +kernel
theorem dX5_ahead_52 : decode cX5_ahead 52 = .ok (.getfield 9, 3) := by decide +kernel
theorem dX5_ahead_55 : decode cX5_ahead 55 = .ok (.aload_n 0, 1) := by decide +kernel
theorem dX5_ahead_56 : decode cX5_ahead 56 = .ok (.getfield 16, 3) := by decide +kernel
theorem dX5_ahead_59 : decode cX5_ahead 59 = .ok (.invokestatic 93, 3) := by decide +kernel
theorem dX5_ahead_62 : decode cX5_ahead 62 = .ok (.aload_n 0, 1) := by decide +kernel
theorem dX5_ahead_63 : decode cX5_ahead 63 = .ok (.iload_n 1, 1) := by decide +kernel
theorem dX5_ahead_64 : decode cX5_ahead 64 = .ok (.invokevirtual 164, 3) := by decide +kernel
theorem dX5_ahead_67 : decode cX5_ahead 67 = .ok (.istore_n 3, 1) := by decide +kernel
theorem dX5_ahead_68 : decode cX5_ahead 68 = .ok (.aload_n 0, 1) := by decide +kernel
theorem dX5_ahead_69 : decode cX5_ahead 69 = .ok (.iload_n 2, 1) := by decide +kernel
theorem dX5_ahead_70 : decode cX5_ahead 70 = .ok (.ifCond .ne 7, 3) := by decide +kernel
theorem dX5_ahead_73 : decode cX5_ahead 73 = .ok (.iload_n 3, 1) := by decide +kernel
theorem dX5_ahead_74 : decode cX5_ahead 74 = .ok (.goto 48, 3) := by decide +kernel
theorem dX5_ahead_77 : decode cX5_ahead 77 = .ok (.iload_n 2, 1) := by decide +kernel
theorem dX5_ahead_78 : decode cX5_ahead 78 = .ok (.iconst 1, 1) := by decide +kernel
theorem dX5_ahead_79 : decode cX5_ahead 79 = .ok (.if_icmp .ne 10, 3) := by decide +kernel
theorem dX5_ahead_82 : decode cX5_ahead 82 = .ok (.aload_n 0, 1) := by decide +kernel
theorem dX5_ahead_83 : decode cX5_ahead 83 = .ok (.invokevirtual 170, 3) := by decide +kernel
theorem dX5_ahead_86 : decode cX5_ahead 86 = .ok (.goto 36, 3) := by decide +kernel
theorem dX5_ahead_89 : decode cX5_ahead 89 = .ok (.iload_n 2, 1) := by decide +kernel
theorem dX5_ahead_90 : decode cX5_ahead 90 = .ok (.iconst 2, 1) := by decide +kernel
theorem dX5_ahead_91 : decode cX5_ahead 91 = .ok (.if_icmp .ne 11, 3) := by decide +kernel
theorem dX5_ahead_94 : decode cX5_ahead 94 = .ok (.aload_n 0, 1) := by decide +kernel
theorem dX5_ahead_95 : decode cX5_ahead 95 = .ok (.iconst 1, 1) := by decide +kernel
theorem dX5_ahead_96 : decode cX5_ahead 96 = .ok (.invokevirtual 173, 3) := by decide +kernel
theorem dX5_ahead_99 : decode cX5_ahead 99 = .ok (.goto 23, 3) := by decide +kernel
theorem dX5_ahead_102 : decode cX5_ahead 102 = .ok (.iload_n 2, 1) := by decide +kernel
theorem dX5_ahead_103 : decode cX5_ahead 103 = .ok (.iconst 3, 1) := by decide +kernel
theorem dX5_ahead_104 : decode cX5_ahead 104 = .ok (.if_icmp .ne 10, 3) := by decide +kernel
theorem dX5_ahead_107 : decode cX5_ahead 107 = .ok (.aload_n 0, 1) := by decide +kernel
theorem dX5_ahead_108 : decode cX5_ahead 108 = .ok (.invokevirtual 176, 3) := by decide +kernel
theorem dX5_ahead_111 : decode cX5_ahead 111 = .ok (.goto 11, 3) := by decide +kernel
theorem dX5_ahead_114 : decode cX5_ahead 114 = .ok (.aload_n 0, 1) := by decide +kernel
theorem dX5_ahead_115 : decode cX5_ahead 115 = .ok (.iload_n 2, 1) := by decide +kernel
theorem dX5_ahead_116 : decode cX5_ahead 116 = .ok (.iconst 4, 1) := by decide +kernel
theorem dX5_ahead_117 : decode cX5_ahead 117 = .ok (.isub, 1) := by decide +kernel
theorem dX5_ahead_118 : decode cX5_ahead 118 = .ok (.iconst 1, 1) := by decide +kernel
theorem dX5_ahead_119 : decode cX5_ahead 119 = .ok (.invokevirtual 120, 3) := by decide +kernel
theorem dX5_ahead_122 : decode cX5_ahead 122 = .ok (.invokevirtual 179, 3) := by decide +kernel
theorem dX5_ahead_125 : decode cX5_ahead 125 = .ok (.ireturn, 1) := by decide +kernel
theorem dX5_isLate_0 : decode cX5_isLate 0 = .ok (.aload_n 0, 1) := by decide +kernel
theorem dX5_isLate_1 : decode cX5_isLate 1 = .ok (.getfield 9, 3) := by decide +kernel
theorem dX5_isLate_4 : decode cX5_isLate 4 = .ok (.iconst 0, 1) := by decide +kernel
theorem dX5_isLate_5 : decode cX5_isLate 5 = .ok (.iaload, 1) := by decide +kernel
theorem dX5_isLate_6 : decode cX5_isLate 6 = .ok (.sipush 9899, 3) := by decide +kernel
theorem dX5_isLate_9 : decode cX5_isLate 9 = .ok (.if_icmp .le 7, 3) := by decide +kernel
theorem dX5_isLate_12 : decode cX5_isLate 12 = .ok (.iconst 1, 1) := by decide +kernel
theorem dX5_isLate_13 : decode cX5_isLate 13 = .ok (.goto 4, 3) := by decide +kernel
theorem dX5_isLate_16 : decode cX5_isLate 16 = .ok (.iconst 0, 1) := by decide +kernel
theorem dX5_isLate_17 : decode cX5_isLate 17 = .ok (.ireturn, 1) := by decide +kernel
theorem dX5_firstBelow_0 : decode cX5_firstBelow 0 = .ok (.aload_n 0, 1) := by decide +kernel
theorem dX5_firstBelow_1 : decode cX5_firstBelow 1 = .ok (.iload_n 1, 1) := by decide +kernel
theorem dX5_firstBelow_2 : decode cX5_firstBelow 2 = .ok (.invokevirtual 128, 3) := by decide +kernel
theorem dX5_firstBelow_5 : decode cX5_firstBelow 5 = .ok (.ifCond .ne 10, 3) := by decide +kernel
theorem dX5_firstBelow_8 : decode cX5_firstBelow 8 = .ok (.aload_n 0, 1) := by decide +kernel
theorem dX5_firstBelow_9 : decode cX5_firstBelow 9 = .ok (.ldc 92, 2) := by decide +kernel
theorem dX5_firstBelow_11 : decode cX5_firstBelow 11 = .ok (.invokevirtual 109, 3) := by decide +kernel
theorem dX5_firstBelow_14 : decode cX5_firstBelow 14 = .ok (.ireturn, 1) := by decide +kernel
theorem dX5_firstBelow_15 : decode cX5_firstBelow 15 = .ok (.aload_n 0, 1) := by decide +kernel
theorem dX5_firstBelow_16 : decode cX5_firstBelow 16 = .ok (.invokevirtual 182, 3) := by decide +kernel
theorem dX5_firstBelow_19 : decode cX5_firstBelow 19 = .ok (.ifCond .eq 10, 3) := by decide +kernel
theorem dX5_firstBelow_22 : decode cX5_firstBelow 22 = .ok (.aload_n 0, 1) := by decide +kernel
theorem dX5_firstBelow_23 : decode cX5_firstBelow 23 = .ok (.ldc 163, 2) := by decide +kernel
theorem dX5_firstBelow_25 : decode cX5_firstBelow 25 = .ok (.invokevirtual 109, 3) := by decide +kernel
theorem dX5_firstBelow_28 : decode cX5_firstBelow 28 = .ok (.ireturn, 1) := by decide +kernel
theorem dX5_firstBelow_29 : decode cX5_firstBelow 29 = .ok (.aload_n 0, 1) := by decide +kernel
theorem dX5_firstBelow_30 : decode cX5_firstBelow 30 = .ok (.getfield 9, 3) := by decide +kernel
theorem dX5_firstBelow_33 : decode cX5_firstBelow 33 = .ok (.aload_n 0, 1) := by decide +kernel
theorem dX5_firstBelow_34 : decode cX5_firstBelow 34 = .ok (.getfield 16, 3) := by decide +kernel
theorem dX5_firstBelow_37 : decode cX5_firstBelow 37 = .ok (.invokestatic 93, 3) := by decide +kernel
theorem dX5_firstBelow_40 : decode cX5_firstBelow 40 = .ok (.iconst 0, 1) := by decide +kernel
theorem dX5_firstBelow_41 : decode cX5_firstBelow 41 = .ok (.istore 4, 2) := by decide +kernel
theorem dX5_firstBelow_43 : decode cX5_firstBelow 43 = .ok (.iload 4, 2) := by decide +kernel
theorem dX5_firstBelow_45 : decode cX5_firstBelow 45 = .ok (.bipush 100, 2) := by decide +kernel
theorem dX5_firstBelow_47 : decode cX5_firstBelow 47 = .ok (.if_icmp .gt 25, 3) := by decide +kernel
theorem dX5_firstBelow_50 : decode cX5_firstBelow 50 = .ok (.aload_n 0, 1) := by decide +kernel
theorem dX5_firstBelow_51 : decode cX5_firstBelow 51 = .ok (.iload_n 1, 1) := by decide +kernel
theorem dX5_firstBelow_52 : decode cX5_firstBelow 52 = .ok (.iload_n 2, 1) := by decide +kernel
theorem dX5_firstBelow_53 : decode cX5_firstBelow 53 = .ok (.invokevirtual 120, 3) := by decide +kernel
theorem dX5_firstBelow_56 : decode cX5_firstBelow 56 = .ok (.iload_n 3, 1) := by decide +kernel
theorem dX5_firstBelow_57 : decode cX5_firstBelow 57 = .ok (.if_icmp .lt 15, 3) := by decide +kernel
theorem dX5_firstBelow_60 : decode cX5_firstBelow 60 = .ok (.aload_n 0, 1) := by decide +kernel
theorem dX5_firstBelow_61 : decode cX5_firstBelow 61 = .ok (.iconst 1, 1) := by decide +kernel
theorem dX5_firstBelow_62 : decode cX5_firstBelow 62 = .ok (.invokevirtual 164, 3) := by decide +kernel
theorem dX5_firstBelow_65 : decode cX5_firstBelow 65 = .ok (.pop, 1) := by decide +kernel
theorem dX5_firstBelow_66 : decode cX5_firstBelow 66 = .ok (.iinc 4 1, 3) := by decide +kernel
theorem dX5_firstBelow_69 : decode cX5_firstBelow 69 = .ok (.goto (-26), 3) := by decide +kernel
theorem dX5_firstBelow_72 : decode cX5_firstBelow 72 = .ok (.aload_n 0, 1) := by decide +kernel
theorem dX5_firstBelow_73 : decode cX5_firstBelow 73 = .ok (.iload 4, 2) := by decide +kernel
theorem dX5_firstBelow_75 : decode cX5_firstBelow 75 = .ok (.invokevirtual 179, 3) := by decide +kernel
theorem dX5_firstBelow_78 : decode cX5_firstBelow 78 = .ok (.bipush 100, 2) := by decide +kernel
theorem dX5_firstBelow_80 : decode cX5_firstBelow 80 = .ok (.if_icmp .le 12, 3) := by decide +kernel
theorem dX5_firstBelow_83 : decode cX5_firstBelow 83 = .ok (.aload_n 0, 1) := by decide +kernel
theorem dX5_firstBelow_84 : decode cX5_firstBelow 84 = .ok (.ldc 186, 2) := by decide +kernel
theorem dX5_firstBelow_86 : decode cX5_firstBelow 86 = .ok (.invokevirtual 109, 3) := by decide +kernel
theorem dX5_firstBelow_89 : decode cX5_firstBelow 89 = .ok (.goto 5, 3) := by decide +kernel
theorem dX5_firstBelow_92 : decode cX5_firstBelow 92 = .ok (.iload 4, 2) := by decide +kernel
theorem dX5_firstBelow_94 : decode cX5_firstBelow 94 = .ok (.ireturn, 1) := by decide +kernel
theorem dX5_cold_0 : decode cX5_cold 0 = .ok (.aload_n 0, 1) := by decide +kernel
theorem dX5_cold_1 : decode cX5_cold 1 = .ok (.iload_n 1, 1) := by decide +kernel
theorem dX5_cold_2 : decode cX5_cold 2 = .ok (.iconst 1, 1) := by decide +kernel
theorem dX5_cold_3 : decode cX5_cold 3 = .ok (.bipush 60, 2) := by decide +kernel
theorem dX5_cold_5 : decode cX5_cold 5 = .ok (.invokevirtual 187, 3) := by decide +kernel
theorem dX5_cold_8 : decode cX5_cold 8 = .ok (.ireturn, 1) := by decide +kernel
theorem dX5_spent_0 : decode cX5_spent 0 = .ok (.aload_n 0, 1) := by decide +kernel
theorem dX5_spent_1 : decode cX5_spent 1 = .ok (.iload_n 1, 1) := by decide +kernel
theorem dX5_spent_2 : decode cX5_spent 2 = .ok (.iconst 2, 1) := by decide +kernel
theorem dX5_spent_3 : decode cX5_spent 3 = .ok (.iconst 1, 1) := by decide +kernel
theorem dX5_spent_4 : decode cX5_spent 4 = .ok (.invokevirtual 187, 3) := by decide +kernel
theorem dX5_spent_7 : decode cX5_spent 7 = .ok (.ireturn, 1) := by decide +kernel
theorem dX5_gave_0 : decode cX5_gave 0 = .ok (.iconst 0, 1) := by decide +kernel
theorem dX5_gave_1 : decode cX5_gave 1 = .ok (.istore_n 1, 1) := by decide +kernel
theorem dX5_gave_2 : decode cX5_gave 2 = .ok (.iconst 0, 1) := by decide +kernel
theorem dX5_gave_3 : decode cX5_gave 3 = .ok (.istore_n 2, 1) := by decide +kernel
theorem dX5_gave_4 : decode cX5_gave 4 = .ok (.iload_n 2, 1) := by decide +kernel
theorem dX5_gave_5 : decode cX5_gave 5 = .ok (.aload_n 0, 1) := by decide +kernel
theorem dX5_gave_6 : decode cX5_gave 6 = .ok (.getfield 9, 3) := by decide +kernel
theorem dX5_gave_9 : decode cX5_gave 9 = .ok (.iconst 2, 1) := by decide +kernel
theorem dX5_gave_10 : decode cX5_gave 10 = .ok (.iaload, 1) := by decide +kernel
theorem dX5_gave_11 : decode cX5_gave 11 = .ok (.if_icmp .ge 21, 3) := by decide +kernel
theorem dX5_gave_14 : decode cX5_gave 14 = .ok (.iconst 4, 1) := by decide +kernel
theorem dX5_gave_15 : decode cX5_gave 15 = .ok (.iload_n 1, 1) := by decide +kernel
theorem dX5_gave_16 : decode cX5_gave 16 = .ok (.imul, 1) := by decide +kernel
theorem dX5_gave_17 : decode cX5_gave 17 = .ok (.aload_n 0, 1) := by decide +kernel
theorem dX5_gave_18 : decode cX5_gave 18 = .ok (.iload_n 2, 1) := by decide +kernel
theorem dX5_gave_19 : decode cX5_gave 19 = .ok (.bipush 8, 2) := by decide +kernel
theorem dX5_gave_21 : decode cX5_gave 21 = .ok (.invokevirtual 120, 3) := by decide +kernel
theorem dX5_gave_24 : decode cX5_gave 24 = .ok (.iadd, 1) := by decide +kernel
theorem dX5_gave_25 : decode cX5_gave 25 = .ok (.istore_n 1, 1) := by decide +kernel
theorem dX5_gave_26 : decode cX5_gave 26 = .ok (.iinc 2 1, 3) := by decide +kernel
theorem dX5_gave_29 : decode cX5_gave 29 = .ok (.goto (-25), 3) := by decide +kernel
theorem dX5_gave_32 : decode cX5_gave 32 = .ok (.iload_n 1, 1) := by decide +kernel
theorem dX5_gave_33 : decode cX5_gave 33 = .ok (.ireturn, 1) := by decide +kernel
theorem dX5_rest_0 : decode cX5_rest 0 = .ok (.aload_n 0, 1) := by decide +kernel
theorem dX5_rest_1 : decode cX5_rest 1 = .ok (.invokevirtual 182, 3) := by decide +kernel
theorem dX5_rest_4 : decode cX5_rest 4 = .ok (.ifCond .eq 10, 3) := by decide +kernel
theorem dX5_rest_7 : decode cX5_rest 7 = .ok (.aload_n 0, 1) := by decide +kernel
theorem dX5_rest_8 : decode cX5_rest 8 = .ok (.ldc 163, 2) := by decide +kernel
theorem dX5_rest_10 : decode cX5_rest 10 = .ok (.invokevirtual 109, 3) := by decide +kernel
theorem dX5_rest_13 : decode cX5_rest 13 = .ok (.ireturn, 1) := by decide +kernel
theorem dX5_rest_14 : decode cX5_rest 14 = .ok (.aload_n 0, 1) := by decide +kernel
theorem dX5_rest_15 : decode cX5_rest 15 = .ok (.getfield 9, 3) := by decide +kernel
theorem dX5_rest_18 : decode cX5_rest 18 = .ok (.aload_n 0, 1) := by decide +kernel
theorem dX5_rest_19 : decode cX5_rest 19 = .ok (.getfield 16, 3) := by decide +kernel
theorem dX5_rest_22 : decode cX5_rest 22 = .ok (.invokestatic 93, 3) := by decide +kernel
theorem dX5_rest_25 : decode cX5_rest 25 = .ok (.iconst 0, 1) := by decide +kernel
theorem dX5_rest_26 : decode cX5_rest 26 = .ok (.istore_n 1, 1) := by decide +kernel
theorem dX5_rest_27 : decode cX5_rest 27 = .ok (.iconst 0, 1) := by decide +kernel
theorem dX5_rest_28 : decode cX5_rest 28 = .ok (.istore_n 2, 1) := by decide +kernel
theorem dX5_rest_29 : decode cX5_rest 29 = .ok (.iload_n 1, 1) := by decide +kernel
theorem dX5_rest_30 : decode cX5_rest 30 = .ok (.bipush 60, 2) := by decide +kernel
theorem dX5_rest_32 : decode cX5_rest 32 = .ok (.if_icmp .ge 38, 3) := by decide +kernel
theorem dX5_rest_35 : decode cX5_rest 35 = .ok (.iload_n 2, 1) := by decide +kernel
theorem dX5_rest_36 : decode cX5_rest 36 = .ok (.ifCond .ne 34, 3) := by decide +kernel
theorem dX5_rest_39 : decode cX5_rest 39 = .ok (.aload_n 0, 1) := by decide +kernel
theorem dX5_rest_40 : decode cX5_rest 40 = .ok (.invokevirtual 191, 3) := by decide +kernel
theorem dX5_rest_43 : decode cX5_rest 43 = .ok (.istore_n 3, 1) := by decide +kernel
theorem dX5_rest_44 : decode cX5_rest 44 = .ok (.aload_n 0, 1) := by decide +kernel
theorem dX5_rest_45 : decode cX5_rest 45 = .ok (.iconst 1, 1) := by decide +kernel
theorem dX5_rest_46 : decode cX5_rest 46 = .ok (.invokevirtual 164, 3) := by decide +kernel
theorem dX5_rest_49 : decode cX5_rest 49 = .ok (.pop, 1) := by decide +kernel
theorem dX5_rest_50 : decode cX5_rest 50 = .ok (.iinc 1 1, 3) := by decide +kernel
theorem dX5_rest_53 : decode cX5_rest 53 = .ok (.aload_n 0, 1) := by decide +kernel
theorem dX5_rest_54 : decode cX5_rest 54 = .ok (.invokevirtual 191, 3) := by decide +kernel
theorem dX5_rest_57 : decode cX5_rest 57 = .ok (.iload_n 3, 1) := by decide +kernel
theorem dX5_rest_58 : decode cX5_rest 58 = .ok (.if_icmp .ne 7, 3) := by decide +kernel
theorem dX5_rest_61 : decode cX5_rest 61 = .ok (.iconst 1, 1) := by decide +kernel
theorem dX5_rest_62 : decode cX5_rest 62 = .ok (.goto 4, 3) := by decide +kernel
theorem dX5_rest_65 : decode cX5_rest 65 = .ok (.iconst 0, 1) := by decide +kernel
theorem dX5_rest_66 : decode cX5_rest 66 = .ok (.istore_n 2, 1) := by decide +kernel
theorem dX5_rest_67 : decode cX5_rest 67 = .ok (.goto (-38), 3) := by decide +kernel
theorem dX5_rest_70 : decode cX5_rest 70 = .ok (.aload_n 0, 1) := by decide +kernel
theorem dX5_rest_71 : decode cX5_rest 71 = .ok (.iload_n 2, 1) := by decide +kernel
theorem dX5_rest_72 : decode cX5_rest 72 = .ok (.ifCond .eq 7, 3) := by decide +kernel
theorem dX5_rest_75 : decode cX5_rest 75 = .ok (.iload_n 1, 1) := by decide +kernel
theorem dX5_rest_76 : decode cX5_rest 76 = .ok (.goto 4, 3) := by decide +kernel
theorem dX5_rest_79 : decode cX5_rest 79 = .ok (.iconst 0, 1) := by decide +kernel
theorem dX5_rest_80 : decode cX5_rest 80 = .ok (.invokevirtual 179, 3) := by decide +kernel
theorem dX5_rest_83 : decode cX5_rest 83 = .ok (.ifCond .ne 12, 3) := by decide +kernel
theorem dX5_rest_86 : decode cX5_rest 86 = .ok (.aload_n 0, 1) := by decide +kernel
theorem dX5_rest_87 : decode cX5_rest 87 = .ok (.ldc 186, 2) := by decide +kernel
theorem dX5_rest_89 : decode cX5_rest 89 = .ok (.invokevirtual 109, 3) := by decide +kernel
theorem dX5_rest_92 : decode cX5_rest 92 = .ok (.goto 4, 3) := by decide +kernel
theorem dX5_rest_95 : decode cX5_rest 95 = .ok (.iload_n 1, 1) := by decide +kernel
theorem dX5_rest_96 : decode cX5_rest 96 = .ok (.ireturn, 1) := by decide +kernel
theorem dX5_circle_0 : decode cX5_circle 0 = .ok (.aload_n 0, 1) := by decide +kernel
theorem dX5_circle_1 : decode cX5_circle 1 = .ok (.invokevirtual 182, 3) := by decide +kernel
theorem dX5_circle_4 : decode cX5_circle 4 = .ok (.ifCond .eq 10, 3) := by decide +kernel
theorem dX5_circle_7 : decode cX5_circle 7 = .ok (.aload_n 0, 1) := by decide +kernel
theorem dX5_circle_8 : decode cX5_circle 8 = .ok (.ldc 163, 2) := by decide +kernel
theorem dX5_circle_10 : decode cX5_circle 10 = .ok (.invokevirtual 109, 3) := by decide +kernel
theorem dX5_circle_13 : decode cX5_circle 13 = .ok (.ireturn, 1) := by decide +kernel
theorem dX5_circle_14 : decode cX5_circle 14 = .ok (.aload_n 0, 1) := by decide +kernel
theorem dX5_circle_15 : decode cX5_circle 15 = .ok (.getfield 9, 3) := by decide +kernel
theorem dX5_circle_18 : decode cX5_circle 18 = .ok (.aload_n 0, 1) := by decide +kernel
theorem dX5_circle_19 : decode cX5_circle 19 = .ok (.getfield 16, 3) := by decide +kernel
theorem dX5_circle_22 : decode cX5_circle 22 = .ok (.invokestatic 93, 3) := by decide +kernel
theorem dX5_circle_25 : decode cX5_circle 25 = .ok (.aload_n 0, 1) := by decide +kernel
theorem dX5_circle_26 : decode cX5_circle 26 = .ok (.bipush 24, 2) := by decide +kernel
theorem dX5_circle_28 : decode cX5_circle 28 = .ok (.invokevirtual 164, 3) := by decide +kernel
theorem dX5_circle_31 : decode cX5_circle 31 = .ok (.istore_n 1, 1) := by decide +kernel
theorem dX5_circle_32 : decode cX5_circle 32 = .ok (.aload_n 0, 1) := by decide +kernel
theorem dX5_circle_33 : decode cX5_circle 33 = .ok (.invokevirtual 191, 3) := by decide +kernel
theorem dX5_circle_36 : decode cX5_circle 36 = .ok (.istore_n 2, 1) := by decide +kernel
theorem dX5_circle_37 : decode cX5_circle 37 = .ok (.aload_n 0, 1) := by decide +kernel
theorem dX5_circle_38 : decode cX5_circle 38 = .ok (.getfield 31, 3) := by decide +kernel
theorem dX5_circle_41 : decode cX5_circle 41 = .ok (.astore_n 3, 1) := by decide +kernel
theorem dX5_circle_42 : decode cX5_circle 42 = .ok (.iconst 0, 1) := by decide +kernel
theorem dX5_circle_43 : decode cX5_circle 43 = .ok (.istore 4, 2) := by decide +kernel
theorem dX5_circle_45 : decode cX5_circle 45 = .ok (.iload 4, 2) := by decide +kernel
theorem dX5_circle_47 : decode cX5_circle 47 = .ok (.aload_n 0, 1) := by decide +kernel
theorem dX5_circle_48 : decode cX5_circle 48 = .ok (.getfield 9, 3) := by decide +kernel
theorem dX5_circle_51 : decode cX5_circle 51 = .ok (.iconst 2, 1) := by decide +kernel
theorem dX5_circle_52 : decode cX5_circle 52 = .ok (.iaload, 1) := by decide +kernel
theorem dX5_circle_53 : decode cX5_circle 53 = .ok (.if_icmp .ge 21, 3) := by decide +kernel
theorem dX5_circle_56 : decode cX5_circle 56 = .ok (.aload_n 3, 1) := by decide +kernel
theorem dX5_circle_57 : decode cX5_circle 57 = .ok (.iload 4, 2) := by decide +kernel
theorem dX5_circle_59 : decode cX5_circle 59 = .ok (.aload_n 0, 1) := by decide +kernel
theorem dX5_circle_60 : decode cX5_circle 60 = .ok (.iload 4, 2) := by decide +kernel
theorem dX5_circle_62 : decode cX5_circle 62 = .ok (.bipush 7, 2) := by decide +kernel
theorem dX5_circle_64 : decode cX5_circle 64 = .ok (.invokevirtual 120, 3) := by decide +kernel
theorem dX5_circle_67 : decode cX5_circle 67 = .ok (.iastore, 1) := by decide +kernel
theorem dX5_circle_68 : decode cX5_circle 68 = .ok (.iinc 4 1, 3) := by decide +kernel
theorem dX5_circle_71 : decode cX5_circle 71 = .ok (.goto (-26), 3) := by decide +kernel
theorem dX5_circle_74 : decode cX5_circle 74 = .ok (.iconst (-1), 1) := by decide +kernel
theorem dX5_circle_75 : decode cX5_circle 75 = .ok (.istore 4, 2) := by decide +kernel
theorem dX5_circle_77 : decode cX5_circle 77 = .ok (.iconst 1, 1) := by decide +kernel
theorem dX5_circle_78 : decode cX5_circle 78 = .ok (.istore 5, 2) := by decide +kernel
theorem dX5_circle_80 : decode cX5_circle 80 = .ok (.iload 5, 2) := by decide +kernel
theorem dX5_circle_82 : decode cX5_circle 82 = .ok (.bipush 12, 2) := by decide +kernel
theorem dX5_circle_84 : decode cX5_circle 84 = .ok (.if_icmp .gt 105, 3) := by decide +kernel
theorem dX5_circle_87 : decode cX5_circle 87 = .ok (.iload 4, 2) := by decide +kernel
theorem dX5_circle_89 : decode cX5_circle 89 = .ok (.ifCond .ge 100, 3) := by decide +kernel
theorem dX5_circle_92 : decode cX5_circle 92 = .ok (.iload_n 1, 1) := by decide +kernel
theorem dX5_circle_93 : decode cX5_circle 93 = .ok (.aload_n 0, 1) := by decide +kernel
theorem dX5_circle_94 : decode cX5_circle 94 = .ok (.iconst 1, 1) := by decide +kernel
theorem dX5_circle_95 : decode cX5_circle 95 = .ok (.invokevirtual 164, 3) := by decide +kernel
theorem dX5_circle_98 : decode cX5_circle 98 = .ok (.iadd, 1) := by decide +kernel
theorem dX5_circle_99 : decode cX5_circle 99 = .ok (.istore_n 1, 1) := by decide +kernel
theorem dX5_circle_100 : decode cX5_circle 100 = .ok (.iload 5, 2) := by decide +kernel
theorem dX5_circle_102 : decode cX5_circle 102 = .ok (.iconst 2, 1) := by decide +kernel
theorem dX5_circle_103 : decode cX5_circle 103 = .ok (.irem, 1) := by decide +kernel
theorem dX5_circle_104 : decode cX5_circle 104 = .ok (.ifCond .ne 15, 3) := by decide +kernel
theorem dX5_circle_107 : decode cX5_circle 107 = .ok (.aload_n 0, 1) := by decide +kernel
theorem dX5_circle_108 : decode cX5_circle 108 = .ok (.invokevirtual 191, 3) := by decide +kernel
theorem dX5_circle_111 : decode cX5_circle 111 = .ok (.iload_n 2, 1) := by decide +kernel
theorem dX5_circle_112 : decode cX5_circle 112 = .ok (.if_icmp .ne 7, 3) := by decide +kernel
theorem dX5_circle_115 : decode cX5_circle 115 = .ok (.iconst 1, 1) := by decide +kernel
theorem dX5_circle_116 : decode cX5_circle 116 = .ok (.goto 4, 3) := by decide +kernel
theorem dX5_circle_119 : decode cX5_circle 119 = .ok (.iconst 0, 1) := by decide +kernel
theorem dX5_circle_120 : decode cX5_circle 120 = .ok (.istore 6, 2) := by decide +kernel
theorem dX5_circle_122 : decode cX5_circle 122 = .ok (.iconst 0, 1) := by decide +kernel
theorem dX5_circle_123 : decode cX5_circle 123 = .ok (.istore 7, 2) := by decide +kernel
theorem dX5_circle_125 : decode cX5_circle 125 = .ok (.iload 7, 2) := by decide +kernel
theorem dX5_circle_127 : decode cX5_circle 127 = .ok (.aload_n 0, 1) := by decide +kernel
theorem dX5_circle_128 : decode cX5_circle 128 = .ok (.getfield 9, 3) := by decide +kernel
theorem dX5_circle_131 : decode cX5_circle 131 = .ok (.iconst 2, 1) := by decide +kernel
theorem dX5_circle_132 : decode cX5_circle 132 = .ok (.iaload, 1) := by decide +kernel
theorem dX5_circle_133 : decode cX5_circle 133 = .ok (.if_icmp .ge 36, 3) := by decide +kernel
theorem dX5_circle_136 : decode cX5_circle 136 = .ok (.iload 6, 2) := by decide +kernel
theorem dX5_circle_138 : decode cX5_circle 138 = .ok (.ifCond .eq 22, 3) := by decide +kernel
theorem dX5_circle_141 : decode cX5_circle 141 = .ok (.aload_n 3, 1) := by decide +kernel
theorem dX5_circle_142 : decode cX5_circle 142 = .ok (.iload 7, 2) := by decide +kernel
theorem dX5_circle_144 : decode cX5_circle 144 = .ok (.iaload, 1) := by decide +kernel
theorem dX5_circle_145 : decode cX5_circle 145 = .ok (.aload_n 0, 1) := by decide +kernel
theorem dX5_circle_146 : decode cX5_circle 146 = .ok (.iload 7, 2) := by decide +kernel
theorem dX5_circle_148 : decode cX5_circle 148 = .ok (.bipush 7, 2) := by decide +kernel
theorem dX5_circle_150 : decode cX5_circle 150 = .ok (.invokevirtual 120, 3) := by decide +kernel
theorem dX5_circle_153 : decode cX5_circle 153 = .ok (.if_icmp .ne 7, 3) := by decide +kernel
theorem dX5_circle_156 : decode cX5_circle 156 = .ok (.iconst 1, 1) := by decide +kernel
theorem dX5_circle_157 : decode cX5_circle 157 = .ok (.goto 4, 3) := by decide +kernel
theorem dX5_circle_160 : decode cX5_circle 160 = .ok (.iconst 0, 1) := by decide +kernel
theorem dX5_circle_161 : decode cX5_circle 161 = .ok (.istore 6, 2) := by decide +kernel
theorem dX5_circle_163 : decode cX5_circle 163 = .ok (.iinc 7 1, 3) := by decide +kernel
theorem dX5_circle_166 : decode cX5_circle 166 = .ok (.goto (-41), 3) := by decide +kernel
theorem dX5_circle_169 : decode cX5_circle 169 = .ok (.iload 6, 2) := by decide +kernel
theorem dX5_circle_171 : decode cX5_circle 171 = .ok (.ifCond .eq 8, 3) := by decide +kernel
theorem dX5_circle_174 : decode cX5_circle 174 = .ok (.iload 5, 2) := by decide +kernel
theorem dX5_circle_176 : decode cX5_circle 176 = .ok (.goto 5, 3) := by decide +kernel
theorem dX5_circle_179 : decode cX5_circle 179 = .ok (.iload 4, 2) := by decide +kernel
theorem dX5_circle_181 : decode cX5_circle 181 = .ok (.istore 4, 2) := by decide +kernel
theorem dX5_circle_183 : decode cX5_circle 183 = .ok (.iinc 5 1, 3) := by decide +kernel
theorem dX5_circle_186 : decode cX5_circle 186 = .ok (.goto (-106), 3) := by decide +kernel
theorem dX5_circle_189 : decode cX5_circle 189 = .ok (.aload_n 0, 1) := by decide +kernel
theorem dX5_circle_190 : decode cX5_circle 190 = .ok (.iload_n 1, 1) := by decide +kernel
theorem dX5_circle_191 : decode cX5_circle 191 = .ok (.ifCond .ge 7, 3) := by decide +kernel
theorem dX5_circle_194 : decode cX5_circle 194 = .ok (.iconst (-1), 1) := by decide +kernel
theorem dX5_circle_195 : decode cX5_circle 195 = .ok (.goto 5, 3) := by decide +kernel
theorem dX5_circle_198 : decode cX5_circle 198 = .ok (.iload 4, 2) := by decide +kernel
theorem dX5_circle_200 : decode cX5_circle 200 = .ok (.invokevirtual 179, 3) := by decide +kernel
theorem dX5_circle_203 : decode cX5_circle 203 = .ok (.ifCond .ge 12, 3) := by decide +kernel
theorem dX5_circle_206 : decode cX5_circle 206 = .ok (.aload_n 0, 1) := by decide +kernel
theorem dX5_circle_207 : decode cX5_circle 207 = .ok (.ldc 186, 2) := by decide +kernel
theorem dX5_circle_209 : decode cX5_circle 209 = .ok (.invokevirtual 109, 3) := by decide +kernel
theorem dX5_circle_212 : decode cX5_circle 212 = .ok (.goto 5, 3) := by decide +kernel
theorem dX5_circle_215 : decode cX5_circle 215 = .ok (.iload 4, 2) := by decide +kernel
theorem dX5_circle_217 : decode cX5_circle 217 = .ok (.ireturn, 1) := by decide +kernel
theorem dX5_live_0 : decode cX5_live 0 = .ok (.aload_n 0, 1) := by decide +kernel
theorem dX5_live_1 : decode cX5_live 1 = .ok (.iload_n 1, 1) := by decide +kernel
theorem dX5_live_2 : decode cX5_live 2 = .ok (.invokevirtual 164, 3) := by decide +kernel
theorem dX5_live_5 : decode cX5_live 5 = .ok (.istore_n 2, 1) := by decide +kernel
theorem dX5_live_6 : decode cX5_live 6 = .ok (.iconst 0, 1) := by decide +kernel
theorem dX5_live_7 : decode cX5_live 7 = .ok (.istore_n 3, 1) := by decide +kernel
theorem dX5_live_8 : decode cX5_live 8 = .ok (.iload_n 3, 1) := by decide +kernel
theorem dX5_live_9 : decode cX5_live 9 = .ok (.aload_n 0, 1) := by decide +kernel
theorem dX5_live_10 : decode cX5_live 10 = .ok (.getfield 9, 3) := by decide +kernel
theorem dX5_live_13 : decode cX5_live 13 = .ok (.iconst 2, 1) := by decide +kernel
theorem dX5_live_14 : decode cX5_live 14 = .ok (.iaload, 1) := by decide +kernel
theorem dX5_live_15 : decode cX5_live 15 = .ok (.if_icmp .ge 29, 3) := by decide +kernel
theorem dX5_live_18 : decode cX5_live 18 = .ok (.aload_n 0, 1) := by decide +kernel
theorem dX5_live_19 : decode cX5_live 19 = .ok (.getfield 34, 3) := by decide +kernel
theorem dX5_live_22 : decode cX5_live 22 = .ok (.iload_n 3, 1) := by decide +kernel
theorem dX5_live_23 : decode cX5_live 23 = .ok (.iload_n 2, 1) := by decide +kernel
theorem dX5_live_24 : decode cX5_live 24 = .ok (.ifCond .ge 7, 3) := by decide +kernel
theorem dX5_live_27 : decode cX5_live 27 = .ok (.iconst 0, 1) := by decide +kernel
theorem dX5_live_28 : decode cX5_live 28 = .ok (.goto 9, 3) := by decide +kernel
theorem dX5_live_31 : decode cX5_live 31 = .ok (.aload_n 0, 1) := by decide +kernel
theorem dX5_live_32 : decode cX5_live 32 = .ok (.iload_n 3, 1) := by decide +kernel
theorem dX5_live_33 : decode cX5_live 33 = .ok (.iconst 1, 1) := by decide +kernel
theorem dX5_live_34 : decode cX5_live 34 = .ok (.invokevirtual 120, 3) := by decide +kernel
theorem dX5_live_37 : decode cX5_live 37 = .ok (.iastore, 1) := by decide +kernel
theorem dX5_live_38 : decode cX5_live 38 = .ok (.iinc 3 1, 3) := by decide +kernel
theorem dX5_live_41 : decode cX5_live 41 = .ok (.goto (-33), 3) := by decide +kernel
theorem dX5_live_44 : decode cX5_live 44 = .ok (.aload_n 0, 1) := by decide +kernel
theorem dX5_live_45 : decode cX5_live 45 = .ok (.getfield 16, 3) := by decide +kernel
theorem dX5_live_48 : decode cX5_live 48 = .ok (.aload_n 0, 1) := by decide +kernel
theorem dX5_live_49 : decode cX5_live 49 = .ok (.getfield 9, 3) := by decide +kernel
theorem dX5_live_52 : decode cX5_live 52 = .ok (.invokestatic 93, 3) := by decide +kernel
theorem dX5_live_55 : decode cX5_live 55 = .ok (.return_, 1) := by decide +kernel
theorem dX5_liveAnyhow_0 : decode cX5_liveAnyhow 0 = .ok (.aload_n 0, 1) := by decide +kernel
theorem dX5_liveAnyhow_1 : decode cX5_liveAnyhow 1 = .ok (.getfield 9, 3) := by decide +kernel
theorem dX5_liveAnyhow_4 : decode cX5_liveAnyhow 4 = .ok (.aload_n 0, 1) := by decide +kernel
theorem dX5_liveAnyhow_5 : decode cX5_liveAnyhow 5 = .ok (.getfield 16, 3) := by decide +kernel
theorem dX5_liveAnyhow_8 : decode cX5_liveAnyhow 8 = .ok (.invokestatic 93, 3) := by decide +kernel
theorem dX5_liveAnyhow_11 : decode cX5_liveAnyhow 11 = .ok (.aload_n 0, 1) := by decide +kernel
theorem dX5_liveAnyhow_12 : decode cX5_liveAnyhow 12 = .ok (.iload_n 1, 1) := by decide +kernel
theorem dX5_liveAnyhow_13 : decode cX5_liveAnyhow 13 = .ok (.invokevirtual 194, 3) := by decide +kernel
theorem dX5_liveAnyhow_16 : decode cX5_liveAnyhow 16 = .ok (.iconst 0, 1) := by decide +kernel
theorem dX5_liveAnyhow_17 : decode cX5_liveAnyhow 17 = .ok (.istore_n 2, 1) := by decide +kernel
theorem dX5_liveAnyhow_18 : decode cX5_liveAnyhow 18 = .ok (.iload_n 2, 1) := by decide +kernel
theorem dX5_liveAnyhow_19 : decode cX5_liveAnyhow 19 = .ok (.bipush 8, 2) := by decide +kernel
theorem dX5_liveAnyhow_21 : decode cX5_liveAnyhow 21 = .ok (.if_icmp .ge 21, 3) := by decide +kernel
theorem dX5_liveAnyhow_24 : decode cX5_liveAnyhow 24 = .ok (.aload_n 0, 1) := by decide +kernel
theorem dX5_liveAnyhow_25 : decode cX5_liveAnyhow 25 = .ok (.getfield 37, 3) := by decide +kernel
theorem dX5_liveAnyhow_28 : decode cX5_liveAnyhow 28 = .ok (.iload_n 2, 1) := by decide +kernel
theorem dX5_liveAnyhow_29 : decode cX5_liveAnyhow 29 = .ok (.aload_n 0, 1) := by decide +kernel
theorem dX5_liveAnyhow_30 : decode cX5_liveAnyhow 30 = .ok (.getfield 34, 3) := by decide +kernel
theorem dX5_liveAnyhow_33 : decode cX5_liveAnyhow 33 = .ok (.iload_n 2, 1) := by decide +kernel
theorem dX5_liveAnyhow_34 : decode cX5_liveAnyhow 34 = .ok (.iaload, 1) := by decide +kernel
theorem dX5_liveAnyhow_35 : decode cX5_liveAnyhow 35 = .ok (.iastore, 1) := by decide +kernel
theorem dX5_liveAnyhow_36 : decode cX5_liveAnyhow 36 = .ok (.iinc 2 1, 3) := by decide +kernel
theorem dX5_liveAnyhow_39 : decode cX5_liveAnyhow 39 = .ok (.goto (-21), 3) := by decide +kernel
theorem dX5_liveAnyhow_42 : decode cX5_liveAnyhow 42 = .ok (.return_, 1) := by decide +kernel
theorem dX5_refuses_0 : decode cX5_refuses 0 = .ok (.aload_n 0, 1) := by decide +kernel
theorem dX5_refuses_1 : decode cX5_refuses 1 = .ok (.iload_n 1, 1) := by decide +kernel
theorem dX5_refuses_2 : decode cX5_refuses 2 = .ok (.invokevirtual 128, 3) := by decide +kernel
theorem dX5_refuses_5 : decode cX5_refuses 5 = .ok (.ifCond .eq 13, 3) := by decide +kernel
theorem dX5_refuses_8 : decode cX5_refuses 8 = .ok (.iload_n 2, 1) := by decide +kernel
theorem dX5_refuses_9 : decode cX5_refuses 9 = .ok (.iconst 1, 1) := by decide +kernel
theorem dX5_refuses_10 : decode cX5_refuses 10 = .ok (.bipush 60, 2) := by decide +kernel
theorem dX5_refuses_12 : decode cX5_refuses 12 = .ok (.invokestatic 97, 3) := by decide +kernel
theorem dX5_refuses_15 : decode cX5_refuses 15 = .ok (.ifCond .ne 8, 3) := by decide +kernel
theorem dX5_refuses_18 : decode cX5_refuses 18 = .ok (.ldc 92, 2) := by decide +kernel
theorem dX5_refuses_20 : decode cX5_refuses 20 = .ok (.goto 17, 3) := by decide +kernel
theorem dX5_refuses_23 : decode cX5_refuses 23 = .ok (.aload_n 0, 1) := by decide +kernel
theorem dX5_refuses_24 : decode cX5_refuses 24 = .ok (.iload_n 2, 1) := by decide +kernel
theorem dX5_refuses_25 : decode cX5_refuses 25 = .ok (.invokevirtual 160, 3) := by decide +kernel
theorem dX5_refuses_28 : decode cX5_refuses 28 = .ok (.ifCond .eq 8, 3) := by decide +kernel
theorem dX5_refuses_31 : decode cX5_refuses 31 = .ok (.ldc 163, 2) := by decide +kernel
theorem dX5_refuses_33 : decode cX5_refuses 33 = .ok (.goto 4, 3) := by decide +kernel
theorem dX5_refuses_36 : decode cX5_refuses 36 = .ok (.iconst 0, 1) := by decide +kernel
theorem dX5_refuses_37 : decode cX5_refuses 37 = .ok (.ireturn, 1) := by decide +kernel
theorem dX5_refusesHours_0 : decode cX5_refusesHours 0 = .ok (.iload_n 1, 1) := by decide +kernel
theorem dX5_refusesHours_1 : decode cX5_refusesHours 1 = .ok (.iconst 1, 1) := by decide +kernel
theorem dX5_refusesHours_2 : decode cX5_refusesHours 2 = .ok (.iload_n 2, 1) := by decide +kernel
theorem dX5_refusesHours_3 : decode cX5_refusesHours 3 = .ok (.invokestatic 97, 3) := by decide +kernel
theorem dX5_refusesHours_6 : decode cX5_refusesHours 6 = .ok (.ifCond .ne 8, 3) := by decide +kernel
theorem dX5_refusesHours_9 : decode cX5_refusesHours 9 = .ok (.ldc 92, 2) := by decide +kernel
theorem dX5_refusesHours_11 : decode cX5_refusesHours 11 = .ok (.goto 17, 3) := by decide +kernel
theorem dX5_refusesHours_14 : decode cX5_refusesHours 14 = .ok (.aload_n 0, 1) := by decide +kernel
theorem dX5_refusesHours_15 : decode cX5_refusesHours 15 = .ok (.iload_n 1, 1) := by decide +kernel
theorem dX5_refusesHours_16 : decode cX5_refusesHours 16 = .ok (.invokevirtual 160, 3) := by decide +kernel
theorem dX5_refusesHours_19 : decode cX5_refusesHours 19 = .ok (.ifCond .eq 8, 3) := by decide +kernel
theorem dX5_refusesHours_22 : decode cX5_refusesHours 22 = .ok (.ldc 163, 2) := by decide +kernel
theorem dX5_refusesHours_24 : decode cX5_refusesHours 24 = .ok (.goto 4, 3) := by decide +kernel
theorem dX5_refusesHours_27 : decode cX5_refusesHours 27 = .ok (.iconst 0, 1) := by decide +kernel
theorem dX5_refusesHours_28 : decode cX5_refusesHours 28 = .ok (.ireturn, 1) := by decide +kernel
theorem dX5_spread_0 : decode cX5_spread 0 = .ok (.aload_n 0, 1) := by decide +kernel
theorem dX5_spread_1 : decode cX5_spread 1 = .ok (.iload_n 1, 1) := by decide +kernel
theorem dX5_spread_2 : decode cX5_spread 2 = .ok (.iload_n 2, 1) := by decide +kernel
theorem dX5_spread_3 : decode cX5_spread 3 = .ok (.invokevirtual 198, 3) := by decide +kernel
theorem dX5_spread_6 : decode cX5_spread 6 = .ok (.istore_n 3, 1) := by decide +kernel
theorem dX5_spread_7 : decode cX5_spread 7 = .ok (.iload_n 3, 1) := by decide +kernel
theorem dX5_spread_8 : decode cX5_spread 8 = .ok (.ifCond .eq 9, 3) := by decide +kernel
theorem dX5_spread_11 : decode cX5_spread 11 = .ok (.aload_n 0, 1) := by decide +kernel
theorem dX5_spread_12 : decode cX5_spread 12 = .ok (.iload_n 3, 1) := by decide +kernel
theorem dX5_spread_13 : decode cX5_spread 13 = .ok (.invokevirtual 109, 3) := by decide +kernel
theorem dX5_spread_16 : decode cX5_spread 16 = .ok (.ireturn, 1) := by decide +kernel
theorem dX5_spread_17 : decode cX5_spread 17 = .ok (.aload_n 0, 1) := by decide +kernel
theorem dX5_spread_18 : decode cX5_spread 18 = .ok (.iload_n 2, 1) := by decide +kernel
theorem dX5_spread_19 : decode cX5_spread 19 = .ok (.invokevirtual 201, 3) := by decide +kernel
theorem dX5_spread_22 : decode cX5_spread 22 = .ok (.aload_n 0, 1) := by decide +kernel
theorem dX5_spread_23 : decode cX5_spread 23 = .ok (.getfield 9, 3) := by decide +kernel
theorem dX5_spread_26 : decode cX5_spread 26 = .ok (.iload_n 1, 1) := by decide +kernel
theorem dX5_spread_27 : decode cX5_spread 27 = .ok (.iconst 0, 1) := by decide +kernel
theorem dX5_spread_28 : decode cX5_spread 28 = .ok (.invokestatic 101, 3) := by decide +kernel
theorem dX5_spread_31 : decode cX5_spread 31 = .ok (.iconst 3, 1) := by decide +kernel
theorem dX5_spread_32 : decode cX5_spread 32 = .ok (.iastore, 1) := by decide +kernel
theorem dX5_spread_33 : decode cX5_spread 33 = .ok (.aload_n 0, 1) := by decide +kernel
theorem dX5_spread_34 : decode cX5_spread 34 = .ok (.iload_n 2, 1) := by decide +kernel
theorem dX5_spread_35 : decode cX5_spread 35 = .ok (.invokevirtual 194, 3) := by decide +kernel
theorem dX5_spread_38 : decode cX5_spread 38 = .ok (.iconst 0, 1) := by decide +kernel
theorem dX5_spread_39 : decode cX5_spread 39 = .ok (.istore 4, 2) := by decide +kernel
theorem dX5_spread_41 : decode cX5_spread 41 = .ok (.iconst 0, 1) := by decide +kernel
theorem dX5_spread_42 : decode cX5_spread 42 = .ok (.istore 5, 2) := by decide +kernel
theorem dX5_spread_44 : decode cX5_spread 44 = .ok (.iload 5, 2) := by decide +kernel
theorem dX5_spread_46 : decode cX5_spread 46 = .ok (.aload_n 0, 1) := by decide +kernel
theorem dX5_spread_47 : decode cX5_spread 47 = .ok (.getfield 9, 3) := by decide +kernel
theorem dX5_spread_50 : decode cX5_spread 50 = .ok (.iconst 2, 1) := by decide +kernel
theorem dX5_spread_51 : decode cX5_spread 51 = .ok (.iaload, 1) := by decide +kernel
theorem dX5_spread_52 : decode cX5_spread 52 = .ok (.if_icmp .ge 39, 3) := by decide +kernel
theorem dX5_spread_55 : decode cX5_spread 55 = .ok (.iload 4, 2) := by decide +kernel
theorem dX5_spread_57 : decode cX5_spread 57 = .ok (.aload_n 0, 1) := by decide +kernel
theorem dX5_spread_58 : decode cX5_spread 58 = .ok (.getfield 34, 3) := by decide +kernel
theorem dX5_spread_61 : decode cX5_spread 61 = .ok (.iload 5, 2) := by decide +kernel
theorem dX5_spread_63 : decode cX5_spread 63 = .ok (.iaload, 1) := by decide +kernel
theorem dX5_spread_64 : decode cX5_spread 64 = .ok (.aload_n 0, 1) := by decide +kernel
theorem dX5_spread_65 : decode cX5_spread 65 = .ok (.getfield 37, 3) := by decide +kernel
theorem dX5_spread_68 : decode cX5_spread 68 = .ok (.iload 5, 2) := by decide +kernel
theorem dX5_spread_70 : decode cX5_spread 70 = .ok (.iaload, 1) := by decide +kernel
theorem dX5_spread_71 : decode cX5_spread 71 = .ok (.if_icmp .ge 10, 3) := by decide +kernel
theorem dX5_spread_74 : decode cX5_spread 74 = .ok (.iconst 1, 1) := by decide +kernel
theorem dX5_spread_75 : decode cX5_spread 75 = .ok (.iload 5, 2) := by decide +kernel
theorem dX5_spread_77 : decode cX5_spread 77 = .ok (.ishl, 1) := by decide +kernel
theorem dX5_spread_78 : decode cX5_spread 78 = .ok (.goto 4, 3) := by decide +kernel
theorem dX5_spread_81 : decode cX5_spread 81 = .ok (.iconst 0, 1) := by decide +kernel
theorem dX5_spread_82 : decode cX5_spread 82 = .ok (.ior, 1) := by decide +kernel
theorem dX5_spread_83 : decode cX5_spread 83 = .ok (.istore 4, 2) := by decide +kernel
theorem dX5_spread_85 : decode cX5_spread 85 = .ok (.iinc 5 1, 3) := by decide +kernel
theorem dX5_spread_88 : decode cX5_spread 88 = .ok (.goto (-44), 3) := by decide +kernel
theorem dX5_spread_91 : decode cX5_spread 91 = .ok (.iload 4, 2) := by decide +kernel
theorem dX5_spread_93 : decode cX5_spread 93 = .ok (.ireturn, 1) := by decide +kernel
theorem dX5_bestOf_0 : decode cX5_bestOf 0 = .ok (.aload_n 0, 1) := by decide +kernel
theorem dX5_bestOf_1 : decode cX5_bestOf 1 = .ok (.getfield 9, 3) := by decide +kernel
theorem dX5_bestOf_4 : decode cX5_bestOf 4 = .ok (.aload_n 0, 1) := by decide +kernel
theorem dX5_bestOf_5 : decode cX5_bestOf 5 = .ok (.getfield 16, 3) := by decide +kernel
theorem dX5_bestOf_8 : decode cX5_bestOf 8 = .ok (.invokestatic 93, 3) := by decide +kernel
theorem dX5_bestOf_11 : decode cX5_bestOf 11 = .ok (.iconst (-1), 1) := by decide +kernel
theorem dX5_bestOf_12 : decode cX5_bestOf 12 = .ok (.istore 5, 2) := by decide +kernel
theorem dX5_bestOf_14 : decode cX5_bestOf 14 = .ok (.iconst (-1), 1) := by decide +kernel
theorem dX5_bestOf_15 : decode cX5_bestOf 15 = .ok (.istore 6, 2) := by decide +kernel
theorem dX5_bestOf_17 : decode cX5_bestOf 17 = .ok (.iconst 0, 1) := by decide +kernel
theorem dX5_bestOf_18 : decode cX5_bestOf 18 = .ok (.istore 7, 2) := by decide +kernel
theorem dX5_bestOf_20 : decode cX5_bestOf 20 = .ok (.iload 7, 2) := by decide +kernel
theorem dX5_bestOf_22 : decode cX5_bestOf 22 = .ok (.iload_n 3, 1) := by decide +kernel
theorem dX5_bestOf_23 : decode cX5_bestOf 23 = .ok (.if_icmp .ge 60, 3) := by decide +kernel
theorem dX5_bestOf_26 : decode cX5_bestOf 26 = .ok (.aload_n 0, 1) := by decide +kernel
theorem dX5_bestOf_27 : decode cX5_bestOf 27 = .ok (.getfield 9, 3) := by decide +kernel
theorem dX5_bestOf_30 : decode cX5_bestOf 30 = .ok (.iload_n 1, 1) := by decide +kernel
theorem dX5_bestOf_31 : decode cX5_bestOf 31 = .ok (.iload_n 2, 1) := by decide +kernel
theorem dX5_bestOf_32 : decode cX5_bestOf 32 = .ok (.invokestatic 101, 3) := by decide +kernel
theorem dX5_bestOf_35 : decode cX5_bestOf 35 = .ok (.iload 7, 2) := by decide +kernel
theorem dX5_bestOf_37 : decode cX5_bestOf 37 = .ok (.iastore, 1) := by decide +kernel
theorem dX5_bestOf_38 : decode cX5_bestOf 38 = .ok (.aload_n 0, 1) := by decide +kernel
theorem dX5_bestOf_39 : decode cX5_bestOf 39 = .ok (.iload 4, 2) := by decide +kernel
theorem dX5_bestOf_41 : decode cX5_bestOf 41 = .ok (.invokevirtual 194, 3) := by decide +kernel
theorem dX5_bestOf_44 : decode cX5_bestOf 44 = .ok (.aload_n 0, 1) := by decide +kernel
theorem dX5_bestOf_45 : decode cX5_bestOf 45 = .ok (.getfield 34, 3) := by decide +kernel
theorem dX5_bestOf_48 : decode cX5_bestOf 48 = .ok (.iload_n 1, 1) := by decide +kernel
theorem dX5_bestOf_49 : decode cX5_bestOf 49 = .ok (.iaload, 1) := by decide +kernel
theorem dX5_bestOf_50 : decode cX5_bestOf 50 = .ok (.iload 6, 2) := by decide +kernel
theorem dX5_bestOf_52 : decode cX5_bestOf 52 = .ok (.if_icmp .le 8, 3) := by decide +kernel
theorem dX5_bestOf_55 : decode cX5_bestOf 55 = .ok (.iload 7, 2) := by decide +kernel
theorem dX5_bestOf_57 : decode cX5_bestOf 57 = .ok (.goto 5, 3) := by decide +kernel
theorem dX5_bestOf_60 : decode cX5_bestOf 60 = .ok (.iload 5, 2) := by decide +kernel
theorem dX5_bestOf_62 : decode cX5_bestOf 62 = .ok (.istore 5, 2) := by decide +kernel
theorem dX5_bestOf_64 : decode cX5_bestOf 64 = .ok (.iload 6, 2) := by decide +kernel
theorem dX5_bestOf_66 : decode cX5_bestOf 66 = .ok (.aload_n 0, 1) := by decide +kernel
theorem dX5_bestOf_67 : decode cX5_bestOf 67 = .ok (.getfield 34, 3) := by decide +kernel
theorem dX5_bestOf_70 : decode cX5_bestOf 70 = .ok (.iload_n 1, 1) := by decide +kernel
theorem dX5_bestOf_71 : decode cX5_bestOf 71 = .ok (.iaload, 1) := by decide +kernel
theorem dX5_bestOf_72 : decode cX5_bestOf 72 = .ok (.invokestatic 153, 3) := by decide +kernel
theorem dX5_bestOf_75 : decode cX5_bestOf 75 = .ok (.istore 6, 2) := by decide +kernel
theorem dX5_bestOf_77 : decode cX5_bestOf 77 = .ok (.iinc 7 1, 3) := by decide +kernel
theorem dX5_bestOf_80 : decode cX5_bestOf 80 = .ok (.goto (-60), 3) := by decide +kernel
theorem dX5_bestOf_83 : decode cX5_bestOf 83 = .ok (.iload 5, 2) := by decide +kernel
theorem dX5_bestOf_85 : decode cX5_bestOf 85 = .ok (.ireturn, 1) := by decide +kernel
theorem dX5_kindFor_0 : decode cX5_kindFor 0 = .ok (.aload_n 0, 1) := by decide +kernel
theorem dX5_kindFor_1 : decode cX5_kindFor 1 = .ok (.iload_n 1, 1) := by decide +kernel
theorem dX5_kindFor_2 : decode cX5_kindFor 2 = .ok (.iload_n 2, 1) := by decide +kernel
theorem dX5_kindFor_3 : decode cX5_kindFor 3 = .ok (.invokevirtual 198, 3) := by decide +kernel
theorem dX5_kindFor_6 : decode cX5_kindFor 6 = .ok (.istore_n 3, 1) := by decide +kernel
theorem dX5_kindFor_7 : decode cX5_kindFor 7 = .ok (.iload_n 3, 1) := by decide +kernel
theorem dX5_kindFor_8 : decode cX5_kindFor 8 = .ok (.ifCond .eq 11, 3) := by decide +kernel
theorem dX5_kindFor_11 : decode cX5_kindFor 11 = .ok (.aload_n 0, 1) := by decide +kernel
theorem dX5_kindFor_12 : decode cX5_kindFor 12 = .ok (.iload_n 3, 1) := by decide +kernel
theorem dX5_kindFor_13 : decode cX5_kindFor 13 = .ok (.invokevirtual 109, 3) := by decide +kernel
theorem dX5_kindFor_16 : decode cX5_kindFor 16 = .ok (.goto 12, 3) := by decide +kernel
theorem dX5_kindFor_19 : decode cX5_kindFor 19 = .ok (.aload_n 0, 1) := by decide +kernel
theorem dX5_kindFor_20 : decode cX5_kindFor 20 = .ok (.iload_n 1, 1) := by decide +kernel
theorem dX5_kindFor_21 : decode cX5_kindFor 21 = .ok (.iconst 0, 1) := by decide +kernel
theorem dX5_kindFor_22 : decode cX5_kindFor 22 = .ok (.bipush 7, 2) := by decide +kernel
theorem dX5_kindFor_24 : decode cX5_kindFor 24 = .ok (.iload_n 2, 1) := by decide +kernel
theorem dX5_kindFor_25 : decode cX5_kindFor 25 = .ok (.invokevirtual 204, 3) := by decide +kernel
theorem dX5_kindFor_28 : decode cX5_kindFor 28 = .ok (.ireturn, 1) := by decide +kernel
theorem dX5_tempted_0 : decode cX5_tempted 0 = .ok (.aload_n 0, 1) := by decide +kernel
theorem dX5_tempted_1 : decode cX5_tempted 1 = .ok (.iload_n 1, 1) := by decide +kernel
theorem dX5_tempted_2 : decode cX5_tempted 2 = .ok (.bipush 60, 2) := by decide +kernel
theorem dX5_tempted_4 : decode cX5_tempted 4 = .ok (.invokevirtual 208, 3) := by decide +kernel
theorem dX5_tempted_7 : decode cX5_tempted 7 = .ok (.istore_n 2, 1) := by decide +kernel
theorem dX5_tempted_8 : decode cX5_tempted 8 = .ok (.iload_n 2, 1) := by decide +kernel
theorem dX5_tempted_9 : decode cX5_tempted 9 = .ok (.ifCond .eq 9, 3) := by decide +kernel
theorem dX5_tempted_12 : decode cX5_tempted 12 = .ok (.aload_n 0, 1) := by decide +kernel
theorem dX5_tempted_13 : decode cX5_tempted 13 = .ok (.iload_n 2, 1) := by decide +kernel
theorem dX5_tempted_14 : decode cX5_tempted 14 = .ok (.invokevirtual 109, 3) := by decide +kernel
theorem dX5_tempted_17 : decode cX5_tempted 17 = .ok (.ireturn, 1) := by decide +kernel
theorem dX5_tempted_18 : decode cX5_tempted 18 = .ok (.aload_n 0, 1) := by decide +kernel
theorem dX5_tempted_19 : decode cX5_tempted 19 = .ok (.iload_n 1, 1) := by decide +kernel
theorem dX5_tempted_20 : decode cX5_tempted 20 = .ok (.invokevirtual 201, 3) := by decide +kernel
theorem dX5_tempted_23 : decode cX5_tempted 23 = .ok (.iconst 0, 1) := by decide +kernel
theorem dX5_tempted_24 : decode cX5_tempted 24 = .ok (.istore_n 3, 1) := by decide +kernel
theorem dX5_tempted_25 : decode cX5_tempted 25 = .ok (.iconst 0, 1) := by decide +kernel
theorem dX5_tempted_26 : decode cX5_tempted 26 = .ok (.istore 4, 2) := by decide +kernel
theorem dX5_tempted_28 : decode cX5_tempted 28 = .ok (.iload 4, 2) := by decide +kernel
theorem dX5_tempted_30 : decode cX5_tempted 30 = .ok (.aload_n 0, 1) := by decide +kernel
theorem dX5_tempted_31 : decode cX5_tempted 31 = .ok (.getfield 9, 3) := by decide +kernel
theorem dX5_tempted_34 : decode cX5_tempted 34 = .ok (.iconst 2, 1) := by decide +kernel
theorem dX5_tempted_35 : decode cX5_tempted 35 = .ok (.iaload, 1) := by decide +kernel
theorem dX5_tempted_36 : decode cX5_tempted 36 = .ok (.if_icmp .ge 54, 3) := by decide +kernel
theorem dX5_tempted_39 : decode cX5_tempted 39 = .ok (.aload_n 0, 1) := by decide +kernel
theorem dX5_tempted_40 : decode cX5_tempted 40 = .ok (.getfield 9, 3) := by decide +kernel
theorem dX5_tempted_43 : decode cX5_tempted 43 = .ok (.iload 4, 2) := by decide +kernel
theorem dX5_tempted_45 : decode cX5_tempted 45 = .ok (.iconst 0, 1) := by decide +kernel
theorem dX5_tempted_46 : decode cX5_tempted 46 = .ok (.invokestatic 101, 3) := by decide +kernel
theorem dX5_tempted_49 : decode cX5_tempted 49 = .ok (.iconst 0, 1) := by decide +kernel
theorem dX5_tempted_50 : decode cX5_tempted 50 = .ok (.iastore, 1) := by decide +kernel
theorem dX5_tempted_51 : decode cX5_tempted 51 = .ok (.aload_n 0, 1) := by decide +kernel
theorem dX5_tempted_52 : decode cX5_tempted 52 = .ok (.iload_n 1, 1) := by decide +kernel
theorem dX5_tempted_53 : decode cX5_tempted 53 = .ok (.invokevirtual 194, 3) := by decide +kernel
theorem dX5_tempted_56 : decode cX5_tempted 56 = .ok (.iload_n 3, 1) := by decide +kernel
theorem dX5_tempted_57 : decode cX5_tempted 57 = .ok (.aload_n 0, 1) := by decide +kernel
theorem dX5_tempted_58 : decode cX5_tempted 58 = .ok (.getfield 34, 3) := by decide +kernel
theorem dX5_tempted_61 : decode cX5_tempted 61 = .ok (.iload 4, 2) := by decide +kernel
theorem dX5_tempted_63 : decode cX5_tempted 63 = .ok (.iaload, 1) := by decide +kernel
theorem dX5_tempted_64 : decode cX5_tempted 64 = .ok (.aload_n 0, 1) := by decide +kernel
theorem dX5_tempted_65 : decode cX5_tempted 65 = .ok (.getfield 37, 3) := by decide +kernel
theorem dX5_tempted_68 : decode cX5_tempted 68 = .ok (.iload 4, 2) := by decide +kernel
theorem dX5_tempted_70 : decode cX5_tempted 70 = .ok (.iaload, 1) := by decide +kernel
theorem dX5_tempted_71 : decode cX5_tempted 71 = .ok (.if_icmp .le 10, 3) := by decide +kernel
theorem dX5_tempted_74 : decode cX5_tempted 74 = .ok (.iconst 1, 1) := by decide +kernel
theorem dX5_tempted_75 : decode cX5_tempted 75 = .ok (.iload 4, 2) := by decide +kernel
theorem dX5_tempted_77 : decode cX5_tempted 77 = .ok (.ishl, 1) := by decide +kernel
theorem dX5_tempted_78 : decode cX5_tempted 78 = .ok (.goto 4, 3) := by decide +kernel
theorem dX5_tempted_81 : decode cX5_tempted 81 = .ok (.iconst 0, 1) := by decide +kernel
theorem dX5_tempted_82 : decode cX5_tempted 82 = .ok (.ior, 1) := by decide +kernel
theorem dX5_tempted_83 : decode cX5_tempted 83 = .ok (.istore_n 3, 1) := by decide +kernel
theorem dX5_tempted_84 : decode cX5_tempted 84 = .ok (.iinc 4 1, 3) := by decide +kernel
theorem dX5_tempted_87 : decode cX5_tempted 87 = .ok (.goto (-59), 3) := by decide +kernel
theorem dX5_tempted_90 : decode cX5_tempted 90 = .ok (.iload_n 3, 1) := by decide +kernel
theorem dX5_tempted_91 : decode cX5_tempted 91 = .ok (.ireturn, 1) := by decide +kernel
theorem dX5_missed_0 : decode cX5_missed 0 = .ok (.aload_n 0, 1) := by decide +kernel
theorem dX5_missed_1 : decode cX5_missed 1 = .ok (.iload_n 1, 1) := by decide +kernel
theorem dX5_missed_2 : decode cX5_missed 2 = .ok (.bipush 60, 2) := by decide +kernel
theorem dX5_missed_4 : decode cX5_missed 4 = .ok (.invokevirtual 208, 3) := by decide +kernel
theorem dX5_missed_7 : decode cX5_missed 7 = .ok (.istore_n 2, 1) := by decide +kernel
theorem dX5_missed_8 : decode cX5_missed 8 = .ok (.iload_n 2, 1) := by decide +kernel
theorem dX5_missed_9 : decode cX5_missed 9 = .ok (.ifCond .eq 9, 3) := by decide +kernel
theorem dX5_missed_12 : decode cX5_missed 12 = .ok (.aload_n 0, 1) := by decide +kernel
theorem dX5_missed_13 : decode cX5_missed 13 = .ok (.iload_n 2, 1) := by decide +kernel
theorem dX5_missed_14 : decode cX5_missed 14 = .ok (.invokevirtual 109, 3) := by decide +kernel
theorem dX5_missed_17 : decode cX5_missed 17 = .ok (.ireturn, 1) := by decide +kernel
theorem dX5_missed_18 : decode cX5_missed 18 = .ok (.aload_n 0, 1) := by decide +kernel
theorem dX5_missed_19 : decode cX5_missed 19 = .ok (.iload_n 1, 1) := by decide +kernel
theorem dX5_missed_20 : decode cX5_missed 20 = .ok (.invokevirtual 201, 3) := by decide +kernel
theorem dX5_missed_23 : decode cX5_missed 23 = .ok (.iconst (-1), 1) := by decide +kernel
theorem dX5_missed_24 : decode cX5_missed 24 = .ok (.istore_n 3, 1) := by decide +kernel
theorem dX5_missed_25 : decode cX5_missed 25 = .ok (.iconst 0, 1) := by decide +kernel
theorem dX5_missed_26 : decode cX5_missed 26 = .ok (.istore 4, 2) := by decide +kernel
theorem dX5_missed_28 : decode cX5_missed 28 = .ok (.iconst 0, 1) := by decide +kernel
theorem dX5_missed_29 : decode cX5_missed 29 = .ok (.istore 5, 2) := by decide +kernel
theorem dX5_missed_31 : decode cX5_missed 31 = .ok (.iload 5, 2) := by decide +kernel
theorem dX5_missed_33 : decode cX5_missed 33 = .ok (.aload_n 0, 1) := by decide +kernel
theorem dX5_missed_34 : decode cX5_missed 34 = .ok (.getfield 9, 3) := by decide +kernel
theorem dX5_missed_37 : decode cX5_missed 37 = .ok (.iconst 2, 1) := by decide +kernel
theorem dX5_missed_38 : decode cX5_missed 38 = .ok (.iaload, 1) := by decide +kernel
theorem dX5_missed_39 : decode cX5_missed 39 = .ok (.if_icmp .ge 98, 3) := by decide +kernel
theorem dX5_missed_42 : decode cX5_missed 42 = .ok (.aload_n 0, 1) := by decide +kernel
theorem dX5_missed_43 : decode cX5_missed 43 = .ok (.getfield 9, 3) := by decide +kernel
theorem dX5_missed_46 : decode cX5_missed 46 = .ok (.iload 5, 2) := by decide +kernel
theorem dX5_missed_48 : decode cX5_missed 48 = .ok (.iconst 5, 1) := by decide +kernel
theorem dX5_missed_49 : decode cX5_missed 49 = .ok (.invokestatic 101, 3) := by decide +kernel
theorem dX5_missed_52 : decode cX5_missed 52 = .ok (.iconst 1, 1) := by decide +kernel
theorem dX5_missed_53 : decode cX5_missed 53 = .ok (.iastore, 1) := by decide +kernel
theorem dX5_missed_54 : decode cX5_missed 54 = .ok (.aload_n 0, 1) := by decide +kernel
theorem dX5_missed_55 : decode cX5_missed 55 = .ok (.iload_n 1, 1) := by decide +kernel
theorem dX5_missed_56 : decode cX5_missed 56 = .ok (.invokevirtual 194, 3) := by decide +kernel
theorem dX5_missed_59 : decode cX5_missed 59 = .ok (.iconst 0, 1) := by decide +kernel
theorem dX5_missed_60 : decode cX5_missed 60 = .ok (.istore 6, 2) := by decide +kernel
theorem dX5_missed_62 : decode cX5_missed 62 = .ok (.iconst 0, 1) := by decide +kernel
theorem dX5_missed_63 : decode cX5_missed 63 = .ok (.istore 7, 2) := by decide +kernel
theorem dX5_missed_65 : decode cX5_missed 65 = .ok (.iload 7, 2) := by decide +kernel
theorem dX5_missed_67 : decode cX5_missed 67 = .ok (.aload_n 0, 1) := by decide +kernel
theorem dX5_missed_68 : decode cX5_missed 68 = .ok (.getfield 9, 3) := by decide +kernel
theorem dX5_missed_71 : decode cX5_missed 71 = .ok (.iconst 2, 1) := by decide +kernel
theorem dX5_missed_72 : decode cX5_missed 72 = .ok (.iaload, 1) := by decide +kernel
theorem dX5_missed_73 : decode cX5_missed 73 = .ok (.if_icmp .ge 40, 3) := by decide +kernel
theorem dX5_missed_76 : decode cX5_missed 76 = .ok (.iload 6, 2) := by decide +kernel
theorem dX5_missed_78 : decode cX5_missed 78 = .ok (.iload 7, 2) := by decide +kernel
theorem dX5_missed_80 : decode cX5_missed 80 = .ok (.iload 5, 2) := by decide +kernel
theorem dX5_missed_82 : decode cX5_missed 82 = .ok (.if_icmp .ne 7, 3) := by decide +kernel
theorem dX5_missed_85 : decode cX5_missed 85 = .ok (.iconst 0, 1) := by decide +kernel
theorem dX5_missed_86 : decode cX5_missed 86 = .ok (.goto 18, 3) := by decide +kernel
theorem dX5_missed_89 : decode cX5_missed 89 = .ok (.aload_n 0, 1) := by decide +kernel
theorem dX5_missed_90 : decode cX5_missed 90 = .ok (.getfield 37, 3) := by decide +kernel
theorem dX5_missed_93 : decode cX5_missed 93 = .ok (.iload 7, 2) := by decide +kernel
theorem dX5_missed_95 : decode cX5_missed 95 = .ok (.iaload, 1) := by decide +kernel
theorem dX5_missed_96 : decode cX5_missed 96 = .ok (.aload_n 0, 1) := by decide +kernel
theorem dX5_missed_97 : decode cX5_missed 97 = .ok (.getfield 34, 3) := by decide +kernel
theorem dX5_missed_100 : decode cX5_missed 100 = .ok (.iload 7, 2) := by decide +kernel
theorem dX5_missed_102 : decode cX5_missed 102 = .ok (.iaload, 1) := by decide +kernel
theorem dX5_missed_103 : decode cX5_missed 103 = .ok (.isub, 1) := by decide +kernel
theorem dX5_missed_104 : decode cX5_missed 104 = .ok (.iadd, 1) := by decide +kernel
theorem dX5_missed_105 : decode cX5_missed 105 = .ok (.istore 6, 2) := by decide +kernel
theorem dX5_missed_107 : decode cX5_missed 107 = .ok (.iinc 7 1, 3) := by decide +kernel
theorem dX5_missed_110 : decode cX5_missed 110 = .ok (.goto (-45), 3) := by decide +kernel
theorem dX5_missed_113 : decode cX5_missed 113 = .ok (.iload_n 3, 1) := by decide +kernel
theorem dX5_missed_114 : decode cX5_missed 114 = .ok (.ifCond .lt 10, 3) := by decide +kernel
theorem dX5_missed_117 : decode cX5_missed 117 = .ok (.iload 6, 2) := by decide +kernel
theorem dX5_missed_119 : decode cX5_missed 119 = .ok (.iload 4, 2) := by decide +kernel
theorem dX5_missed_121 : decode cX5_missed 121 = .ok (.if_icmp .le 10, 3) := by decide +kernel
theorem dX5_missed_124 : decode cX5_missed 124 = .ok (.iload 5, 2) := by decide +kernel
theorem dX5_missed_126 : decode cX5_missed 126 = .ok (.istore_n 3, 1) := by decide +kernel
theorem dX5_missed_127 : decode cX5_missed 127 = .ok (.iload 6, 2) := by decide +kernel
theorem dX5_missed_129 : decode cX5_missed 129 = .ok (.istore 4, 2) := by decide +kernel
theorem dX5_missed_131 : decode cX5_missed 131 = .ok (.iinc 5 1, 3) := by decide +kernel
theorem dX5_missed_134 : decode cX5_missed 134 = .ok (.goto (-103), 3) := by decide +kernel
theorem dX5_missed_137 : decode cX5_missed 137 = .ok (.iload_n 3, 1) := by decide +kernel
theorem dX5_missed_138 : decode cX5_missed 138 = .ok (.ifCond .ge 12, 3) := by decide +kernel
theorem dX5_missed_141 : decode cX5_missed 141 = .ok (.aload_n 0, 1) := by decide +kernel
theorem dX5_missed_142 : decode cX5_missed 142 = .ok (.ldc 186, 2) := by decide +kernel
theorem dX5_missed_144 : decode cX5_missed 144 = .ok (.invokevirtual 109, 3) := by decide +kernel
theorem dX5_missed_147 : decode cX5_missed 147 = .ok (.goto 4, 3) := by decide +kernel
theorem dX5_missed_150 : decode cX5_missed 150 = .ok (.iload_n 3, 1) := by decide +kernel
theorem dX5_missed_151 : decode cX5_missed 151 = .ok (.ireturn, 1) := by decide +kernel
theorem dX5_leastThen_0 : decode cX5_leastThen 0 = .ok (.sipush 300, 3) := by decide +kernel
theorem dX5_leastThen_3 : decode cX5_leastThen 3 = .ok (.istore_n 1, 1) := by decide +kernel
theorem dX5_leastThen_4 : decode cX5_leastThen 4 = .ok (.iconst 0, 1) := by decide +kernel
theorem dX5_leastThen_5 : decode cX5_leastThen 5 = .ok (.istore_n 2, 1) := by decide +kernel
theorem dX5_leastThen_6 : decode cX5_leastThen 6 = .ok (.iload_n 2, 1) := by decide +kernel
theorem dX5_leastThen_7 : decode cX5_leastThen 7 = .ok (.aload_n 0, 1) := by decide +kernel
theorem dX5_leastThen_8 : decode cX5_leastThen 8 = .ok (.getfield 9, 3) := by decide +kernel
theorem dX5_leastThen_11 : decode cX5_leastThen 11 = .ok (.iconst 2, 1) := by decide +kernel
theorem dX5_leastThen_12 : decode cX5_leastThen 12 = .ok (.iaload, 1) := by decide +kernel
theorem dX5_leastThen_13 : decode cX5_leastThen 13 = .ok (.if_icmp .ge 20, 3) := by decide +kernel
theorem dX5_leastThen_16 : decode cX5_leastThen 16 = .ok (.iload_n 1, 1) := by decide +kernel
theorem dX5_leastThen_17 : decode cX5_leastThen 17 = .ok (.aload_n 0, 1) := by decide +kernel
theorem dX5_leastThen_18 : decode cX5_leastThen 18 = .ok (.getfield 34, 3) := by decide +kernel
theorem dX5_leastThen_21 : decode cX5_leastThen 21 = .ok (.iload_n 2, 1) := by decide +kernel
theorem dX5_leastThen_22 : decode cX5_leastThen 22 = .ok (.iaload, 1) := by decide +kernel
theorem dX5_leastThen_23 : decode cX5_leastThen 23 = .ok (.invokestatic 123, 3) := by decide +kernel
theorem dX5_leastThen_26 : decode cX5_leastThen 26 = .ok (.istore_n 1, 1) := by decide +kernel
theorem dX5_leastThen_27 : decode cX5_leastThen 27 = .ok (.iinc 2 1, 3) := by decide +kernel
theorem dX5_leastThen_30 : decode cX5_leastThen 30 = .ok (.goto (-24), 3) := by decide +kernel
theorem dX5_leastThen_33 : decode cX5_leastThen 33 = .ok (.iload_n 1, 1) := by decide +kernel
theorem dX5_leastThen_34 : decode cX5_leastThen 34 = .ok (.ireturn, 1) := by decide +kernel
theorem dX5_refusesPairs_0 : decode cX5_refusesPairs 0 = .ok (.aload_n 0, 1) := by decide +kernel
theorem dX5_refusesPairs_1 : decode cX5_refusesPairs 1 = .ok (.iload_n 1, 1) := by decide +kernel
theorem dX5_refusesPairs_2 : decode cX5_refusesPairs 2 = .ok (.bipush 24, 2) := by decide +kernel
theorem dX5_refusesPairs_4 : decode cX5_refusesPairs 4 = .ok (.invokevirtual 208, 3) := by decide +kernel
theorem dX5_refusesPairs_7 : decode cX5_refusesPairs 7 = .ok (.istore_n 2, 1) := by decide +kernel
theorem dX5_refusesPairs_8 : decode cX5_refusesPairs 8 = .ok (.iload_n 2, 1) := by decide +kernel
theorem dX5_refusesPairs_9 : decode cX5_refusesPairs 9 = .ok (.ifCond .eq 7, 3) := by decide +kernel
theorem dX5_refusesPairs_12 : decode cX5_refusesPairs 12 = .ok (.iload_n 2, 1) := by decide +kernel
theorem dX5_refusesPairs_13 : decode cX5_refusesPairs 13 = .ok (.goto 18, 3) := by decide +kernel
theorem dX5_refusesPairs_16 : decode cX5_refusesPairs 16 = .ok (.aload_n 0, 1) := by decide +kernel
theorem dX5_refusesPairs_17 : decode cX5_refusesPairs 17 = .ok (.getfield 9, 3) := by decide +kernel
theorem dX5_refusesPairs_20 : decode cX5_refusesPairs 20 = .ok (.iconst 2, 1) := by decide +kernel
theorem dX5_refusesPairs_21 : decode cX5_refusesPairs 21 = .ok (.iaload, 1) := by decide +kernel
theorem dX5_refusesPairs_22 : decode cX5_refusesPairs 22 = .ok (.ifCond .ne 8, 3) := by decide +kernel
theorem dX5_refusesPairs_25 : decode cX5_refusesPairs 25 = .ok (.ldc 163, 2) := by decide +kernel
theorem dX5_refusesPairs_27 : decode cX5_refusesPairs 27 = .ok (.goto 4, 3) := by decide +kernel
theorem dX5_refusesPairs_30 : decode cX5_refusesPairs 30 = .ok (.iconst 0, 1) := by decide +kernel
theorem dX5_refusesPairs_31 : decode cX5_refusesPairs 31 = .ok (.ireturn, 1) := by decide +kernel
theorem dX5_findPair_0 : decode cX5_findPair 0 = .ok (.aload_n 0, 1) := by decide +kernel
theorem dX5_findPair_1 : decode cX5_findPair 1 = .ok (.getfield 9, 3) := by decide +kernel
theorem dX5_findPair_4 : decode cX5_findPair 4 = .ok (.aload_n 0, 1) := by decide +kernel
theorem dX5_findPair_5 : decode cX5_findPair 5 = .ok (.getfield 16, 3) := by decide +kernel
theorem dX5_findPair_8 : decode cX5_findPair 8 = .ok (.invokestatic 93, 3) := by decide +kernel
theorem dX5_findPair_11 : decode cX5_findPair 11 = .ok (.aload_n 0, 1) := by decide +kernel
theorem dX5_findPair_12 : decode cX5_findPair 12 = .ok (.iload_n 1, 1) := by decide +kernel
theorem dX5_findPair_13 : decode cX5_findPair 13 = .ok (.invokevirtual 194, 3) := by decide +kernel
theorem dX5_findPair_16 : decode cX5_findPair 16 = .ok (.aload_n 0, 1) := by decide +kernel
theorem dX5_findPair_17 : decode cX5_findPair 17 = .ok (.iconst (-1), 1) := by decide +kernel
theorem dX5_findPair_18 : decode cX5_findPair 18 = .ok (.putfield 211, 3) := by decide +kernel
theorem dX5_findPair_21 : decode cX5_findPair 21 = .ok (.aload_n 0, 1) := by decide +kernel
theorem dX5_findPair_22 : decode cX5_findPair 22 = .ok (.aload_n 0, 1) := by decide +kernel
theorem dX5_findPair_23 : decode cX5_findPair 23 = .ok (.invokevirtual 215, 3) := by decide +kernel
theorem dX5_findPair_26 : decode cX5_findPair 26 = .ok (.putfield 218, 3) := by decide +kernel
theorem dX5_findPair_29 : decode cX5_findPair 29 = .ok (.iconst 0, 1) := by decide +kernel
theorem dX5_findPair_30 : decode cX5_findPair 30 = .ok (.istore_n 2, 1) := by decide +kernel
theorem dX5_findPair_31 : decode cX5_findPair 31 = .ok (.iload_n 2, 1) := by decide +kernel
theorem dX5_findPair_32 : decode cX5_findPair 32 = .ok (.aload_n 0, 1) := by decide +kernel
theorem dX5_findPair_33 : decode cX5_findPair 33 = .ok (.getfield 9, 3) := by decide +kernel
theorem dX5_findPair_36 : decode cX5_findPair 36 = .ok (.iconst 2, 1) := by decide +kernel
theorem dX5_findPair_37 : decode cX5_findPair 37 = .ok (.iaload, 1) := by decide +kernel
theorem dX5_findPair_38 : decode cX5_findPair 38 = .ok (.if_icmp .ge 77, 3) := by decide +kernel
theorem dX5_findPair_41 : decode cX5_findPair 41 = .ok (.iload_n 2, 1) := by decide +kernel
theorem dX5_findPair_42 : decode cX5_findPair 42 = .ok (.iconst 1, 1) := by decide +kernel
theorem dX5_findPair_43 : decode cX5_findPair 43 = .ok (.iadd, 1) := by decide +kernel
theorem dX5_findPair_44 : decode cX5_findPair 44 = .ok (.istore_n 3, 1) := by decide +kernel
theorem dX5_findPair_45 : decode cX5_findPair 45 = .ok (.iload_n 3, 1) := by decide +kernel
theorem dX5_findPair_46 : decode cX5_findPair 46 = .ok (.aload_n 0, 1) := by decide +kernel
theorem dX5_findPair_47 : decode cX5_findPair 47 = .ok (.getfield 9, 3) := by decide +kernel
theorem dX5_findPair_50 : decode cX5_findPair 50 = .ok (.iconst 2, 1) := by decide +kernel
theorem dX5_findPair_51 : decode cX5_findPair 51 = .ok (.iaload, 1) := by decide +kernel
theorem dX5_findPair_52 : decode cX5_findPair 52 = .ok (.if_icmp .ge 57, 3) := by decide +kernel
theorem dX5_findPair_55 : decode cX5_findPair 55 = .ok (.aload_n 0, 1) := by decide +kernel
theorem dX5_findPair_56 : decode cX5_findPair 56 = .ok (.iload_n 2, 1) := by decide +kernel
theorem dX5_findPair_57 : decode cX5_findPair 57 = .ok (.iload_n 3, 1) := by decide +kernel
theorem dX5_findPair_58 : decode cX5_findPair 58 = .ok (.invokevirtual 148, 3) := by decide +kernel
theorem dX5_findPair_61 : decode cX5_findPair 61 = .ok (.istore 4, 2) := by decide +kernel
theorem dX5_findPair_63 : decode cX5_findPair 63 = .ok (.aload_n 0, 1) := by decide +kernel
theorem dX5_findPair_64 : decode cX5_findPair 64 = .ok (.iload_n 1, 1) := by decide +kernel
theorem dX5_findPair_65 : decode cX5_findPair 65 = .ok (.invokevirtual 194, 3) := by decide +kernel
theorem dX5_findPair_68 : decode cX5_findPair 68 = .ok (.iload 4, 2) := by decide +kernel
theorem dX5_findPair_70 : decode cX5_findPair 70 = .ok (.iconst 1, 1) := by decide +kernel
theorem dX5_findPair_71 : decode cX5_findPair 71 = .ok (.if_icmp .ne 32, 3) := by decide +kernel
theorem dX5_findPair_74 : decode cX5_findPair 74 = .ok (.aload_n 0, 1) := by decide +kernel
theorem dX5_findPair_75 : decode cX5_findPair 75 = .ok (.invokevirtual 215, 3) := by decide +kernel
theorem dX5_findPair_78 : decode cX5_findPair 78 = .ok (.aload_n 0, 1) := by decide +kernel
theorem dX5_findPair_79 : decode cX5_findPair 79 = .ok (.getfield 218, 3) := by decide +kernel
theorem dX5_findPair_82 : decode cX5_findPair 82 = .ok (.if_icmp .le 21, 3) := by decide +kernel
theorem dX5_findPair_85 : decode cX5_findPair 85 = .ok (.aload_n 0, 1) := by decide +kernel
theorem dX5_findPair_86 : decode cX5_findPair 86 = .ok (.bipush 10, 2) := by decide +kernel
theorem dX5_findPair_88 : decode cX5_findPair 88 = .ok (.iload_n 2, 1) := by decide +kernel
theorem dX5_findPair_89 : decode cX5_findPair 89 = .ok (.imul, 1) := by decide +kernel
theorem dX5_findPair_90 : decode cX5_findPair 90 = .ok (.iload_n 3, 1) := by decide +kernel
theorem dX5_findPair_91 : decode cX5_findPair 91 = .ok (.iadd, 1) := by decide +kernel
theorem dX5_findPair_92 : decode cX5_findPair 92 = .ok (.putfield 211, 3) := by decide +kernel
theorem dX5_findPair_95 : decode cX5_findPair 95 = .ok (.aload_n 0, 1) := by decide +kernel
theorem dX5_findPair_96 : decode cX5_findPair 96 = .ok (.aload_n 0, 1) := by decide +kernel
theorem dX5_findPair_97 : decode cX5_findPair 97 = .ok (.invokevirtual 215, 3) := by decide +kernel
theorem dX5_findPair_100 : decode cX5_findPair 100 = .ok (.putfield 218, 3) := by decide +kernel
theorem dX5_findPair_103 : decode cX5_findPair 103 = .ok (.iinc 3 1, 3) := by decide +kernel
theorem dX5_findPair_106 : decode cX5_findPair 106 = .ok (.goto (-61), 3) := by decide +kernel
theorem dX5_findPair_109 : decode cX5_findPair 109 = .ok (.iinc 2 1, 3) := by decide +kernel
theorem dX5_findPair_112 : decode cX5_findPair 112 = .ok (.goto (-81), 3) := by decide +kernel
theorem dX5_findPair_115 : decode cX5_findPair 115 = .ok (.return_, 1) := by decide +kernel
theorem dX5_warmest_0 : decode cX5_warmest 0 = .ok (.aload_n 0, 1) := by decide +kernel
theorem dX5_warmest_1 : decode cX5_warmest 1 = .ok (.iload_n 1, 1) := by decide +kernel
theorem dX5_warmest_2 : decode cX5_warmest 2 = .ok (.invokevirtual 221, 3) := by decide +kernel
theorem dX5_warmest_5 : decode cX5_warmest 5 = .ok (.istore_n 2, 1) := by decide +kernel
theorem dX5_warmest_6 : decode cX5_warmest 6 = .ok (.iload_n 2, 1) := by decide +kernel
theorem dX5_warmest_7 : decode cX5_warmest 7 = .ok (.ifCond .eq 9, 3) := by decide +kernel
theorem dX5_warmest_10 : decode cX5_warmest 10 = .ok (.aload_n 0, 1) := by decide +kernel
theorem dX5_warmest_11 : decode cX5_warmest 11 = .ok (.iload_n 2, 1) := by decide +kernel
theorem dX5_warmest_12 : decode cX5_warmest 12 = .ok (.invokevirtual 109, 3) := by decide +kernel
theorem dX5_warmest_15 : decode cX5_warmest 15 = .ok (.ireturn, 1) := by decide +kernel
theorem dX5_warmest_16 : decode cX5_warmest 16 = .ok (.aload_n 0, 1) := by decide +kernel
theorem dX5_warmest_17 : decode cX5_warmest 17 = .ok (.iload_n 1, 1) := by decide +kernel
theorem dX5_warmest_18 : decode cX5_warmest 18 = .ok (.invokevirtual 224, 3) := by decide +kernel
theorem dX5_warmest_21 : decode cX5_warmest 21 = .ok (.aload_n 0, 1) := by decide +kernel
theorem dX5_warmest_22 : decode cX5_warmest 22 = .ok (.getfield 218, 3) := by decide +kernel
theorem dX5_warmest_25 : decode cX5_warmest 25 = .ok (.ireturn, 1) := by decide +kernel
theorem dX5_exchange_0 : decode cX5_exchange 0 = .ok (.aload_n 0, 1) := by decide +kernel
theorem dX5_exchange_1 : decode cX5_exchange 1 = .ok (.iload_n 1, 1) := by decide +kernel
theorem dX5_exchange_2 : decode cX5_exchange 2 = .ok (.invokevirtual 221, 3) := by decide +kernel
theorem dX5_exchange_5 : decode cX5_exchange 5 = .ok (.istore_n 2, 1) := by decide +kernel
theorem dX5_exchange_6 : decode cX5_exchange 6 = .ok (.iload_n 2, 1) := by decide +kernel
theorem dX5_exchange_7 : decode cX5_exchange 7 = .ok (.ifCond .eq 9, 3) := by decide +kernel
theorem dX5_exchange_10 : decode cX5_exchange 10 = .ok (.aload_n 0, 1) := by decide +kernel
theorem dX5_exchange_11 : decode cX5_exchange 11 = .ok (.iload_n 2, 1) := by decide +kernel
theorem dX5_exchange_12 : decode cX5_exchange 12 = .ok (.invokevirtual 109, 3) := by decide +kernel
theorem dX5_exchange_15 : decode cX5_exchange 15 = .ok (.ireturn, 1) := by decide +kernel
theorem dX5_exchange_16 : decode cX5_exchange 16 = .ok (.aload_n 0, 1) := by decide +kernel
theorem dX5_exchange_17 : decode cX5_exchange 17 = .ok (.iload_n 1, 1) := by decide +kernel
theorem dX5_exchange_18 : decode cX5_exchange 18 = .ok (.invokevirtual 224, 3) := by decide +kernel
theorem dX5_exchange_21 : decode cX5_exchange 21 = .ok (.aload_n 0, 1) := by decide +kernel
theorem dX5_exchange_22 : decode cX5_exchange 22 = .ok (.getfield 211, 3) := by decide +kernel
theorem dX5_exchange_25 : decode cX5_exchange 25 = .ok (.ifCond .ge 12, 3) := by decide +kernel
theorem dX5_exchange_28 : decode cX5_exchange 28 = .ok (.aload_n 0, 1) := by decide +kernel
theorem dX5_exchange_29 : decode cX5_exchange 29 = .ok (.ldc 186, 2) := by decide +kernel
theorem dX5_exchange_31 : decode cX5_exchange 31 = .ok (.invokevirtual 109, 3) := by decide +kernel
theorem dX5_exchange_34 : decode cX5_exchange 34 = .ok (.goto 7, 3) := by decide +kernel
theorem dX5_exchange_37 : decode cX5_exchange 37 = .ok (.aload_n 0, 1) := by decide +kernel
theorem dX5_exchange_38 : decode cX5_exchange 38 = .ok (.getfield 211, 3) := by decide +kernel
theorem dX5_exchange_41 : decode cX5_exchange 41 = .ok (.ireturn, 1) := by decide +kernel
theorem dX5_deal_0 : decode cX5_deal 0 = .ok (.aload_n 0, 1) := by decide +kernel
theorem dX5_deal_1 : decode cX5_deal 1 = .ok (.iload_n 1, 1) := by decide +kernel
theorem dX5_deal_2 : decode cX5_deal 2 = .ok (.invokevirtual 221, 3) := by decide +kernel
theorem dX5_deal_5 : decode cX5_deal 5 = .ok (.istore_n 2, 1) := by decide +kernel
theorem dX5_deal_6 : decode cX5_deal 6 = .ok (.iload_n 2, 1) := by decide +kernel
theorem dX5_deal_7 : decode cX5_deal 7 = .ok (.ifCond .eq 9, 3) := by decide +kernel
theorem dX5_deal_10 : decode cX5_deal 10 = .ok (.aload_n 0, 1) := by decide +kernel
theorem dX5_deal_11 : decode cX5_deal 11 = .ok (.iload_n 2, 1) := by decide +kernel
theorem dX5_deal_12 : decode cX5_deal 12 = .ok (.invokevirtual 109, 3) := by decide +kernel
theorem dX5_deal_15 : decode cX5_deal 15 = .ok (.ireturn, 1) := by decide +kernel
theorem dX5_deal_16 : decode cX5_deal 16 = .ok (.aload_n 0, 1) := by decide +kernel
theorem dX5_deal_17 : decode cX5_deal 17 = .ok (.iload_n 1, 1) := by decide +kernel
theorem dX5_deal_18 : decode cX5_deal 18 = .ok (.invokevirtual 201, 3) := by decide +kernel
theorem dX5_deal_21 : decode cX5_deal 21 = .ok (.iconst (-1), 1) := by decide +kernel
theorem dX5_deal_22 : decode cX5_deal 22 = .ok (.istore_n 3, 1) := by decide +kernel
theorem dX5_deal_23 : decode cX5_deal 23 = .ok (.iconst 0, 1) := by decide +kernel
theorem dX5_deal_24 : decode cX5_deal 24 = .ok (.istore 4, 2) := by decide +kernel
theorem dX5_deal_26 : decode cX5_deal 26 = .ok (.iload 4, 2) := by decide +kernel
theorem dX5_deal_28 : decode cX5_deal 28 = .ok (.aload_n 0, 1) := by decide +kernel
theorem dX5_deal_29 : decode cX5_deal 29 = .ok (.getfield 9, 3) := by decide +kernel
theorem dX5_deal_32 : decode cX5_deal 32 = .ok (.iconst 2, 1) := by decide +kernel
theorem dX5_deal_33 : decode cX5_deal 33 = .ok (.iaload, 1) := by decide +kernel
theorem dX5_deal_34 : decode cX5_deal 34 = .ok (.if_icmp .ge 116, 3) := by decide +kernel
theorem dX5_deal_37 : decode cX5_deal 37 = .ok (.iload 4, 2) := by decide +kernel
theorem dX5_deal_39 : decode cX5_deal 39 = .ok (.iconst 1, 1) := by decide +kernel
theorem dX5_deal_40 : decode cX5_deal 40 = .ok (.iadd, 1) := by decide +kernel
theorem dX5_deal_41 : decode cX5_deal 41 = .ok (.istore 5, 2) := by decide +kernel
theorem dX5_deal_43 : decode cX5_deal 43 = .ok (.iload 5, 2) := by decide +kernel
theorem dX5_deal_45 : decode cX5_deal 45 = .ok (.aload_n 0, 1) := by decide +kernel
theorem dX5_deal_46 : decode cX5_deal 46 = .ok (.getfield 9, 3) := by decide +kernel
theorem dX5_deal_49 : decode cX5_deal 49 = .ok (.iconst 2, 1) := by decide +kernel
theorem dX5_deal_50 : decode cX5_deal 50 = .ok (.iaload, 1) := by decide +kernel
theorem dX5_deal_51 : decode cX5_deal 51 = .ok (.if_icmp .ge 93, 3) := by decide +kernel
theorem dX5_deal_54 : decode cX5_deal 54 = .ok (.iload_n 3, 1) := by decide +kernel
theorem dX5_deal_55 : decode cX5_deal 55 = .ok (.ifCond .ge 89, 3) := by decide +kernel
theorem dX5_deal_58 : decode cX5_deal 58 = .ok (.aload_n 0, 1) := by decide +kernel
theorem dX5_deal_59 : decode cX5_deal 59 = .ok (.iload 4, 2) := by decide +kernel
theorem dX5_deal_61 : decode cX5_deal 61 = .ok (.iload 5, 2) := by decide +kernel
theorem dX5_deal_63 : decode cX5_deal 63 = .ok (.invokevirtual 148, 3) := by decide +kernel
theorem dX5_deal_66 : decode cX5_deal 66 = .ok (.istore 6, 2) := by decide +kernel
theorem dX5_deal_68 : decode cX5_deal 68 = .ok (.aload_n 0, 1) := by decide +kernel
theorem dX5_deal_69 : decode cX5_deal 69 = .ok (.iload_n 1, 1) := by decide +kernel
theorem dX5_deal_70 : decode cX5_deal 70 = .ok (.invokevirtual 194, 3) := by decide +kernel
theorem dX5_deal_73 : decode cX5_deal 73 = .ok (.iload 6, 2) := by decide +kernel
theorem dX5_deal_75 : decode cX5_deal 75 = .ok (.iconst 1, 1) := by decide +kernel
theorem dX5_deal_76 : decode cX5_deal 76 = .ok (.if_icmp .ne 41, 3) := by decide +kernel
theorem dX5_deal_79 : decode cX5_deal 79 = .ok (.aload_n 0, 1) := by decide +kernel
theorem dX5_deal_80 : decode cX5_deal 80 = .ok (.getfield 34, 3) := by decide +kernel
theorem dX5_deal_83 : decode cX5_deal 83 = .ok (.iload 5, 2) := by decide +kernel
theorem dX5_deal_85 : decode cX5_deal 85 = .ok (.iaload, 1) := by decide +kernel
theorem dX5_deal_86 : decode cX5_deal 86 = .ok (.aload_n 0, 1) := by decide +kernel
theorem dX5_deal_87 : decode cX5_deal 87 = .ok (.getfield 37, 3) := by decide +kernel
theorem dX5_deal_90 : decode cX5_deal 90 = .ok (.iload 4, 2) := by decide +kernel
theorem dX5_deal_92 : decode cX5_deal 92 = .ok (.iaload, 1) := by decide +kernel
theorem dX5_deal_93 : decode cX5_deal 93 = .ok (.if_icmp .le 24, 3) := by decide +kernel
theorem dX5_deal_96 : decode cX5_deal 96 = .ok (.aload_n 0, 1) := by decide +kernel
theorem dX5_deal_97 : decode cX5_deal 97 = .ok (.getfield 34, 3) := by decide +kernel
theorem dX5_deal_100 : decode cX5_deal 100 = .ok (.iload 4, 2) := by decide +kernel
theorem dX5_deal_102 : decode cX5_deal 102 = .ok (.iaload, 1) := by decide +kernel
theorem dX5_deal_103 : decode cX5_deal 103 = .ok (.aload_n 0, 1) := by decide +kernel
theorem dX5_deal_104 : decode cX5_deal 104 = .ok (.getfield 37, 3) := by decide +kernel
theorem dX5_deal_107 : decode cX5_deal 107 = .ok (.iload 5, 2) := by decide +kernel
theorem dX5_deal_109 : decode cX5_deal 109 = .ok (.iaload, 1) := by decide +kernel
theorem dX5_deal_110 : decode cX5_deal 110 = .ok (.if_icmp .le 7, 3) := by decide +kernel
theorem dX5_deal_113 : decode cX5_deal 113 = .ok (.iconst 1, 1) := by decide +kernel
theorem dX5_deal_114 : decode cX5_deal 114 = .ok (.goto 4, 3) := by decide +kernel
theorem dX5_deal_117 : decode cX5_deal 117 = .ok (.iconst 0, 1) := by decide +kernel
theorem dX5_deal_118 : decode cX5_deal 118 = .ok (.istore 7, 2) := by decide +kernel
theorem dX5_deal_120 : decode cX5_deal 120 = .ok (.iload 7, 2) := by decide +kernel
theorem dX5_deal_122 : decode cX5_deal 122 = .ok (.ifCond .eq 14, 3) := by decide +kernel
theorem dX5_deal_125 : decode cX5_deal 125 = .ok (.bipush 10, 2) := by decide +kernel
theorem dX5_deal_127 : decode cX5_deal 127 = .ok (.iload 4, 2) := by decide +kernel
theorem dX5_deal_129 : decode cX5_deal 129 = .ok (.imul, 1) := by decide +kernel
theorem dX5_deal_130 : decode cX5_deal 130 = .ok (.iload 5, 2) := by decide +kernel
theorem dX5_deal_132 : decode cX5_deal 132 = .ok (.iadd, 1) := by decide +kernel
theorem dX5_deal_133 : decode cX5_deal 133 = .ok (.goto 4, 3) := by decide +kernel
theorem dX5_deal_136 : decode cX5_deal 136 = .ok (.iload_n 3, 1) := by decide +kernel
theorem dX5_deal_137 : decode cX5_deal 137 = .ok (.istore_n 3, 1) := by decide +kernel
theorem dX5_deal_138 : decode cX5_deal 138 = .ok (.iinc 5 1, 3) := by decide +kernel
theorem dX5_deal_141 : decode cX5_deal 141 = .ok (.goto (-98), 3) := by decide +kernel
theorem dX5_deal_144 : decode cX5_deal 144 = .ok (.iinc 4 1, 3) := by decide +kernel
theorem dX5_deal_147 : decode cX5_deal 147 = .ok (.goto (-121), 3) := by decide +kernel
theorem dX5_deal_150 : decode cX5_deal 150 = .ok (.iload_n 3, 1) := by decide +kernel
theorem dX5_deal_151 : decode cX5_deal 151 = .ok (.ifCond .ge 12, 3) := by decide +kernel
theorem dX5_deal_154 : decode cX5_deal 154 = .ok (.aload_n 0, 1) := by decide +kernel
theorem dX5_deal_155 : decode cX5_deal 155 = .ok (.ldc 186, 2) := by decide +kernel
theorem dX5_deal_157 : decode cX5_deal 157 = .ok (.invokevirtual 109, 3) := by decide +kernel
theorem dX5_deal_160 : decode cX5_deal 160 = .ok (.goto 4, 3) := by decide +kernel
theorem dX5_deal_163 : decode cX5_deal 163 = .ok (.iload_n 3, 1) := by decide +kernel
theorem dX5_deal_164 : decode cX5_deal 164 = .ok (.ireturn, 1) := by decide +kernel
theorem dX5_dealOn_0 : decode cX5_dealOn 0 = .ok (.iload_n 3, 1) := by decide +kernel
theorem dX5_dealOn_1 : decode cX5_dealOn 1 = .ok (.iload_n 1, 1) := by decide +kernel
theorem dX5_dealOn_2 : decode cX5_dealOn 2 = .ok (.if_icmp .ne 59, 3) := by decide +kernel
theorem dX5_dealOn_5 : decode cX5_dealOn 5 = .ok (.aload_n 0, 1) := by decide +kernel
theorem dX5_dealOn_6 : decode cX5_dealOn 6 = .ok (.getfield 9, 3) := by decide +kernel
theorem dX5_dealOn_9 : decode cX5_dealOn 9 = .ok (.aload_n 0, 1) := by decide +kernel
theorem dX5_dealOn_10 : decode cX5_dealOn 10 = .ok (.getfield 40, 3) := by decide +kernel
theorem dX5_dealOn_13 : decode cX5_dealOn 13 = .ok (.invokestatic 93, 3) := by decide +kernel
theorem dX5_dealOn_16 : decode cX5_dealOn 16 = .ok (.aload_n 0, 1) := by decide +kernel
theorem dX5_dealOn_17 : decode cX5_dealOn 17 = .ok (.iload_n 2, 1) := by decide +kernel
theorem dX5_dealOn_18 : decode cX5_dealOn 18 = .ok (.invokevirtual 164, 3) := by decide +kernel
theorem dX5_dealOn_21 : decode cX5_dealOn 21 = .ok (.istore 5, 2) := by decide +kernel
theorem dX5_dealOn_23 : decode cX5_dealOn 23 = .ok (.aload_n 0, 1) := by decide +kernel
theorem dX5_dealOn_24 : decode cX5_dealOn 24 = .ok (.dup, 1) := by decide +kernel
theorem dX5_dealOn_25 : decode cX5_dealOn 25 = .ok (.getfield 227, 3) := by decide +kernel
theorem dX5_dealOn_28 : decode cX5_dealOn 28 = .ok (.iload 5, 2) := by decide +kernel
theorem dX5_dealOn_30 : decode cX5_dealOn 30 = .ok (.ifCond .lt 14, 3) := by decide +kernel
theorem dX5_dealOn_33 : decode cX5_dealOn 33 = .ok (.aload_n 0, 1) := by decide +kernel
theorem dX5_dealOn_34 : decode cX5_dealOn 34 = .ok (.invokevirtual 170, 3) := by decide +kernel
theorem dX5_dealOn_37 : decode cX5_dealOn 37 = .ok (.ifCond .ne 7, 3) := by decide +kernel
theorem dX5_dealOn_40 : decode cX5_dealOn 40 = .ok (.iconst 1, 1) := by decide +kernel
theorem dX5_dealOn_41 : decode cX5_dealOn 41 = .ok (.goto 4, 3) := by decide +kernel
theorem dX5_dealOn_44 : decode cX5_dealOn 44 = .ok (.iconst 0, 1) := by decide +kernel
theorem dX5_dealOn_45 : decode cX5_dealOn 45 = .ok (.iadd, 1) := by decide +kernel
theorem dX5_dealOn_46 : decode cX5_dealOn 46 = .ok (.putfield 227, 3) := by decide +kernel
theorem dX5_dealOn_49 : decode cX5_dealOn 49 = .ok (.aload_n 0, 1) := by decide +kernel
theorem dX5_dealOn_50 : decode cX5_dealOn 50 = .ok (.getfield 40, 3) := by decide +kernel
theorem dX5_dealOn_53 : decode cX5_dealOn 53 = .ok (.aload_n 0, 1) := by decide +kernel
theorem dX5_dealOn_54 : decode cX5_dealOn 54 = .ok (.getfield 9, 3) := by decide +kernel
theorem dX5_dealOn_57 : decode cX5_dealOn 57 = .ok (.invokestatic 93, 3) := by decide +kernel
theorem dX5_dealOn_60 : decode cX5_dealOn 60 = .ok (.return_, 1) := by decide +kernel
theorem dX5_dealOn_61 : decode cX5_dealOn 61 = .ok (.iconst 0, 1) := by decide +kernel
theorem dX5_dealOn_62 : decode cX5_dealOn 62 = .ok (.istore 5, 2) := by decide +kernel
theorem dX5_dealOn_64 : decode cX5_dealOn 64 = .ok (.iload 5, 2) := by decide +kernel
theorem dX5_dealOn_66 : decode cX5_dealOn 66 = .ok (.iload_n 1, 1) := by decide +kernel
theorem dX5_dealOn_67 : decode cX5_dealOn 67 = .ok (.if_icmp .ge 56, 3) := by decide +kernel
theorem dX5_dealOn_70 : decode cX5_dealOn 70 = .ok (.iload 4, 2) := by decide +kernel
theorem dX5_dealOn_72 : decode cX5_dealOn 72 = .ok (.iload 5, 2) := by decide +kernel
theorem dX5_dealOn_74 : decode cX5_dealOn 74 = .ok (.invokestatic 140, 3) := by decide +kernel
theorem dX5_dealOn_77 : decode cX5_dealOn 77 = .ok (.ifCond .ne 40, 3) := by decide +kernel
theorem dX5_dealOn_80 : decode cX5_dealOn 80 = .ok (.aload_n 0, 1) := by decide +kernel
theorem dX5_dealOn_81 : decode cX5_dealOn 81 = .ok (.getfield 9, 3) := by decide +kernel
theorem dX5_dealOn_84 : decode cX5_dealOn 84 = .ok (.iload_n 3, 1) := by decide +kernel
theorem dX5_dealOn_85 : decode cX5_dealOn 85 = .ok (.iconst 0, 1) := by decide +kernel
theorem dX5_dealOn_86 : decode cX5_dealOn 86 = .ok (.invokestatic 101, 3) := by decide +kernel
theorem dX5_dealOn_89 : decode cX5_dealOn 89 = .ok (.aload_n 0, 1) := by decide +kernel
theorem dX5_dealOn_90 : decode cX5_dealOn 90 = .ok (.getfield 16, 3) := by decide +kernel
theorem dX5_dealOn_93 : decode cX5_dealOn 93 = .ok (.iload 5, 2) := by decide +kernel
theorem dX5_dealOn_95 : decode cX5_dealOn 95 = .ok (.iconst 0, 1) := by decide +kernel
theorem dX5_dealOn_96 : decode cX5_dealOn 96 = .ok (.invokestatic 101, 3) := by decide +kernel
theorem dX5_dealOn_99 : decode cX5_dealOn 99 = .ok (.iaload, 1) := by decide +kernel
theorem dX5_dealOn_100 : decode cX5_dealOn 100 = .ok (.iastore, 1) := by decide +kernel
theorem dX5_dealOn_101 : decode cX5_dealOn 101 = .ok (.aload_n 0, 1) := by decide +kernel
theorem dX5_dealOn_102 : decode cX5_dealOn 102 = .ok (.iload_n 1, 1) := by decide +kernel
theorem dX5_dealOn_103 : decode cX5_dealOn 103 = .ok (.iload_n 2, 1) := by decide +kernel
theorem dX5_dealOn_104 : decode cX5_dealOn 104 = .ok (.iload_n 3, 1) := by decide +kernel
theorem dX5_dealOn_105 : decode cX5_dealOn 105 = .ok (.iconst 1, 1) := by decide +kernel
theorem dX5_dealOn_106 : decode cX5_dealOn 106 = .ok (.iadd, 1) := by decide +kernel
theorem dX5_dealOn_107 : decode cX5_dealOn 107 = .ok (.iload 4, 2) := by decide +kernel
theorem dX5_dealOn_109 : decode cX5_dealOn 109 = .ok (.iconst 1, 1) := by decide +kernel
theorem dX5_dealOn_110 : decode cX5_dealOn 110 = .ok (.iload 5, 2) := by decide +kernel
theorem dX5_dealOn_112 : decode cX5_dealOn 112 = .ok (.ishl, 1) := by decide +kernel
theorem dX5_dealOn_113 : decode cX5_dealOn 113 = .ok (.ior, 1) := by decide +kernel
theorem dX5_dealOn_114 : decode cX5_dealOn 114 = .ok (.invokevirtual 230, 3) := by decide +kernel
theorem dX5_dealOn_117 : decode cX5_dealOn 117 = .ok (.iinc 5 1, 3) := by decide +kernel
theorem dX5_dealOn_120 : decode cX5_dealOn 120 = .ok (.goto (-56), 3) := by decide +kernel
theorem dX5_dealOn_123 : decode cX5_dealOn 123 = .ok (.return_, 1) := by decide +kernel
theorem dX5_orders_0 : decode cX5_orders 0 = .ok (.iload_n 1, 1) := by decide +kernel
theorem dX5_orders_1 : decode cX5_orders 1 = .ok (.iconst 2, 1) := by decide +kernel
theorem dX5_orders_2 : decode cX5_orders 2 = .ok (.iconst 5, 1) := by decide +kernel
theorem dX5_orders_3 : decode cX5_orders 3 = .ok (.aload_n 0, 1) := by decide +kernel
theorem dX5_orders_4 : decode cX5_orders 4 = .ok (.getfield 9, 3) := by decide +kernel
theorem dX5_orders_7 : decode cX5_orders 7 = .ok (.iconst 2, 1) := by decide +kernel
theorem dX5_orders_8 : decode cX5_orders 8 = .ok (.iaload, 1) := by decide +kernel
theorem dX5_orders_9 : decode cX5_orders 9 = .ok (.invokestatic 123, 3) := by decide +kernel
theorem dX5_orders_12 : decode cX5_orders 12 = .ok (.invokestatic 97, 3) := by decide +kernel
theorem dX5_orders_15 : decode cX5_orders 15 = .ok (.ifCond .eq 13, 3) := by decide +kernel
theorem dX5_orders_18 : decode cX5_orders 18 = .ok (.iload_n 2, 1) := by decide +kernel
theorem dX5_orders_19 : decode cX5_orders 19 = .ok (.iconst 1, 1) := by decide +kernel
theorem dX5_orders_20 : decode cX5_orders 20 = .ok (.bipush 24, 2) := by decide +kernel
theorem dX5_orders_22 : decode cX5_orders 22 = .ok (.invokestatic 97, 3) := by decide +kernel
theorem dX5_orders_25 : decode cX5_orders 25 = .ok (.ifCond .ne 10, 3) := by decide +kernel
theorem dX5_orders_28 : decode cX5_orders 28 = .ok (.aload_n 0, 1) := by decide +kernel
theorem dX5_orders_29 : decode cX5_orders 29 = .ok (.ldc 92, 2) := by decide +kernel
theorem dX5_orders_31 : decode cX5_orders 31 = .ok (.invokevirtual 109, 3) := by decide +kernel
theorem dX5_orders_34 : decode cX5_orders 34 = .ok (.ireturn, 1) := by decide +kernel
theorem dX5_orders_35 : decode cX5_orders 35 = .ok (.aload_n 0, 1) := by decide +kernel
theorem dX5_orders_36 : decode cX5_orders 36 = .ok (.iload_n 2, 1) := by decide +kernel
theorem dX5_orders_37 : decode cX5_orders 37 = .ok (.invokevirtual 160, 3) := by decide +kernel
theorem dX5_orders_40 : decode cX5_orders 40 = .ok (.ifCond .eq 10, 3) := by decide +kernel
theorem dX5_orders_43 : decode cX5_orders 43 = .ok (.aload_n 0, 1) := by decide +kernel
theorem dX5_orders_44 : decode cX5_orders 44 = .ok (.ldc 163, 2) := by decide +kernel
theorem dX5_orders_46 : decode cX5_orders 46 = .ok (.invokevirtual 109, 3) := by decide +kernel
theorem dX5_orders_49 : decode cX5_orders 49 = .ok (.ireturn, 1) := by decide +kernel
theorem dX5_orders_50 : decode cX5_orders 50 = .ok (.aload_n 0, 1) := by decide +kernel
theorem dX5_orders_51 : decode cX5_orders 51 = .ok (.getfield 9, 3) := by decide +kernel
theorem dX5_orders_54 : decode cX5_orders 54 = .ok (.aload_n 0, 1) := by decide +kernel
theorem dX5_orders_55 : decode cX5_orders 55 = .ok (.getfield 16, 3) := by decide +kernel
theorem dX5_orders_58 : decode cX5_orders 58 = .ok (.invokestatic 93, 3) := by decide +kernel
theorem dX5_orders_61 : decode cX5_orders 61 = .ok (.aload_n 0, 1) := by decide +kernel
theorem dX5_orders_62 : decode cX5_orders 62 = .ok (.iconst 0, 1) := by decide +kernel
theorem dX5_orders_63 : decode cX5_orders 63 = .ok (.putfield 227, 3) := by decide +kernel
theorem dX5_orders_66 : decode cX5_orders 66 = .ok (.aload_n 0, 1) := by decide +kernel
theorem dX5_orders_67 : decode cX5_orders 67 = .ok (.iload_n 1, 1) := by decide +kernel
theorem dX5_orders_68 : decode cX5_orders 68 = .ok (.iload_n 2, 1) := by decide +kernel
theorem dX5_orders_69 : decode cX5_orders 69 = .ok (.iconst 0, 1) := by decide +kernel
theorem dX5_orders_70 : decode cX5_orders 70 = .ok (.iconst 0, 1) := by decide +kernel
theorem dX5_orders_71 : decode cX5_orders 71 = .ok (.invokevirtual 230, 3) := by decide +kernel
theorem dX5_orders_74 : decode cX5_orders 74 = .ok (.aload_n 0, 1) := by decide +kernel
theorem dX5_orders_75 : decode cX5_orders 75 = .ok (.aload_n 0, 1) := by decide +kernel
theorem dX5_orders_76 : decode cX5_orders 76 = .ok (.getfield 227, 3) := by decide +kernel
theorem dX5_orders_79 : decode cX5_orders 79 = .ok (.invokevirtual 179, 3) := by decide +kernel
theorem dX5_orders_82 : decode cX5_orders 82 = .ok (.ireturn, 1) := by decide +kernel
theorem dX5_leastFor_0 : decode cX5_leastFor 0 = .ok (.aload_n 0, 1) := by decide +kernel
theorem dX5_leastFor_1 : decode cX5_leastFor 1 = .ok (.getfield 9, 3) := by decide +kernel
theorem dX5_leastFor_4 : decode cX5_leastFor 4 = .ok (.aload_n 0, 1) := by decide +kernel
theorem dX5_leastFor_5 : decode cX5_leastFor 5 = .ok (.getfield 16, 3) := by decide +kernel
theorem dX5_leastFor_8 : decode cX5_leastFor 8 = .ok (.invokestatic 93, 3) := by decide +kernel
theorem dX5_leastFor_11 : decode cX5_leastFor 11 = .ok (.iload_n 3, 1) := by decide +kernel
theorem dX5_leastFor_12 : decode cX5_leastFor 12 = .ok (.istore 7, 2) := by decide +kernel
theorem dX5_leastFor_14 : decode cX5_leastFor 14 = .ok (.iload 7, 2) := by decide +kernel
theorem dX5_leastFor_16 : decode cX5_leastFor 16 = .ok (.iload 4, 2) := by decide +kernel
theorem dX5_leastFor_18 : decode cX5_leastFor 18 = .ok (.if_icmp .gt 42, 3) := by decide +kernel
theorem dX5_leastFor_21 : decode cX5_leastFor 21 = .ok (.aload_n 0, 1) := by decide +kernel
theorem dX5_leastFor_22 : decode cX5_leastFor 22 = .ok (.getfield 9, 3) := by decide +kernel
theorem dX5_leastFor_25 : decode cX5_leastFor 25 = .ok (.iload_n 1, 1) := by decide +kernel
theorem dX5_leastFor_26 : decode cX5_leastFor 26 = .ok (.iload_n 2, 1) := by decide +kernel
theorem dX5_leastFor_27 : decode cX5_leastFor 27 = .ok (.invokestatic 101, 3) := by decide +kernel
theorem dX5_leastFor_30 : decode cX5_leastFor 30 = .ok (.iload 7, 2) := by decide +kernel
theorem dX5_leastFor_32 : decode cX5_leastFor 32 = .ok (.iastore, 1) := by decide +kernel
theorem dX5_leastFor_33 : decode cX5_leastFor 33 = .ok (.aload_n 0, 1) := by decide +kernel
theorem dX5_leastFor_34 : decode cX5_leastFor 34 = .ok (.iload 6, 2) := by decide +kernel
theorem dX5_leastFor_36 : decode cX5_leastFor 36 = .ok (.invokevirtual 194, 3) := by decide +kernel
theorem dX5_leastFor_39 : decode cX5_leastFor 39 = .ok (.aload_n 0, 1) := by decide +kernel
theorem dX5_leastFor_40 : decode cX5_leastFor 40 = .ok (.getfield 34, 3) := by decide +kernel
theorem dX5_leastFor_43 : decode cX5_leastFor 43 = .ok (.iload 5, 2) := by decide +kernel
theorem dX5_leastFor_45 : decode cX5_leastFor 45 = .ok (.iaload, 1) := by decide +kernel
theorem dX5_leastFor_46 : decode cX5_leastFor 46 = .ok (.bipush 60, 2) := by decide +kernel
theorem dX5_leastFor_48 : decode cX5_leastFor 48 = .ok (.if_icmp .lt 6, 3) := by decide +kernel
theorem dX5_leastFor_51 : decode cX5_leastFor 51 = .ok (.iload 7, 2) := by decide +kernel
theorem dX5_leastFor_53 : decode cX5_leastFor 53 = .ok (.ireturn, 1) := by decide +kernel
theorem dX5_leastFor_54 : decode cX5_leastFor 54 = .ok (.iinc 7 1, 3) := by decide +kernel
theorem dX5_leastFor_57 : decode cX5_leastFor 57 = .ok (.goto (-43), 3) := by decide +kernel
theorem dX5_leastFor_60 : decode cX5_leastFor 60 = .ok (.aload_n 0, 1) := by decide +kernel
theorem dX5_leastFor_61 : decode cX5_leastFor 61 = .ok (.ldc 186, 2) := by decide +kernel
theorem dX5_leastFor_63 : decode cX5_leastFor 63 = .ok (.invokevirtual 109, 3) := by decide +kernel
theorem dX5_leastFor_66 : decode cX5_leastFor 66 = .ok (.ireturn, 1) := by decide +kernel
theorem dX5_coal_0 : decode cX5_coal 0 = .ok (.aload_n 0, 1) := by decide +kernel
theorem dX5_coal_1 : decode cX5_coal 1 = .ok (.iload_n 1, 1) := by decide +kernel
theorem dX5_coal_2 : decode cX5_coal 2 = .ok (.iload_n 2, 1) := by decide +kernel
theorem dX5_coal_3 : decode cX5_coal 3 = .ok (.invokevirtual 198, 3) := by decide +kernel
theorem dX5_coal_6 : decode cX5_coal 6 = .ok (.istore_n 3, 1) := by decide +kernel
theorem dX5_coal_7 : decode cX5_coal 7 = .ok (.iload_n 3, 1) := by decide +kernel
theorem dX5_coal_8 : decode cX5_coal 8 = .ok (.ifCond .ne 19, 3) := by decide +kernel
theorem dX5_coal_11 : decode cX5_coal 11 = .ok (.aload_n 0, 1) := by decide +kernel
theorem dX5_coal_12 : decode cX5_coal 12 = .ok (.aload_n 0, 1) := by decide +kernel
theorem dX5_coal_13 : decode cX5_coal 13 = .ok (.iload_n 1, 1) := by decide +kernel
theorem dX5_coal_14 : decode cX5_coal 14 = .ok (.iconst 4, 1) := by decide +kernel
theorem dX5_coal_15 : decode cX5_coal 15 = .ok (.invokevirtual 120, 3) := by decide +kernel
theorem dX5_coal_18 : decode cX5_coal 18 = .ok (.invokevirtual 128, 3) := by decide +kernel
theorem dX5_coal_21 : decode cX5_coal 21 = .ok (.ifCond .ne 6, 3) := by decide +kernel
theorem dX5_coal_24 : decode cX5_coal 24 = .ok (.ldc 163, 2) := by decide +kernel
theorem dX5_coal_26 : decode cX5_coal 26 = .ok (.istore_n 3, 1) := by decide +kernel
theorem dX5_coal_27 : decode cX5_coal 27 = .ok (.iload_n 3, 1) := by decide +kernel
theorem dX5_coal_28 : decode cX5_coal 28 = .ok (.ifCond .eq 11, 3) := by decide +kernel
theorem dX5_coal_31 : decode cX5_coal 31 = .ok (.aload_n 0, 1) := by decide +kernel
theorem dX5_coal_32 : decode cX5_coal 32 = .ok (.iload_n 3, 1) := by decide +kernel
theorem dX5_coal_33 : decode cX5_coal 33 = .ok (.invokevirtual 109, 3) := by decide +kernel
theorem dX5_coal_36 : decode cX5_coal 36 = .ok (.goto 20, 3) := by decide +kernel
theorem dX5_coal_39 : decode cX5_coal 39 = .ok (.aload_n 0, 1) := by decide +kernel
theorem dX5_coal_40 : decode cX5_coal 40 = .ok (.iload_n 1, 1) := by decide +kernel
theorem dX5_coal_41 : decode cX5_coal 41 = .ok (.iconst 2, 1) := by decide +kernel
theorem dX5_coal_42 : decode cX5_coal 42 = .ok (.iconst 0, 1) := by decide +kernel
theorem dX5_coal_43 : decode cX5_coal 43 = .ok (.sipush 999, 3) := by decide +kernel
theorem dX5_coal_46 : decode cX5_coal 46 = .ok (.aload_n 0, 1) := by decide +kernel
theorem dX5_coal_47 : decode cX5_coal 47 = .ok (.iload_n 1, 1) := by decide +kernel
theorem dX5_coal_48 : decode cX5_coal 48 = .ok (.iconst 4, 1) := by decide +kernel
theorem dX5_coal_49 : decode cX5_coal 49 = .ok (.invokevirtual 120, 3) := by decide +kernel
theorem dX5_coal_52 : decode cX5_coal 52 = .ok (.iload_n 2, 1) := by decide +kernel
theorem dX5_coal_53 : decode cX5_coal 53 = .ok (.invokevirtual 234, 3) := by decide +kernel
theorem dX5_coal_56 : decode cX5_coal 56 = .ok (.ireturn, 1) := by decide +kernel
theorem dX5_wall_0 : decode cX5_wall 0 = .ok (.aload_n 0, 1) := by decide +kernel
theorem dX5_wall_1 : decode cX5_wall 1 = .ok (.iload_n 1, 1) := by decide +kernel
theorem dX5_wall_2 : decode cX5_wall 2 = .ok (.iload_n 2, 1) := by decide +kernel
theorem dX5_wall_3 : decode cX5_wall 3 = .ok (.invokevirtual 198, 3) := by decide +kernel
theorem dX5_wall_6 : decode cX5_wall 6 = .ok (.istore_n 3, 1) := by decide +kernel
theorem dX5_wall_7 : decode cX5_wall 7 = .ok (.iload_n 3, 1) := by decide +kernel
theorem dX5_wall_8 : decode cX5_wall 8 = .ok (.ifCond .eq 11, 3) := by decide +kernel
theorem dX5_wall_11 : decode cX5_wall 11 = .ok (.aload_n 0, 1) := by decide +kernel
theorem dX5_wall_12 : decode cX5_wall 12 = .ok (.iload_n 3, 1) := by decide +kernel
theorem dX5_wall_13 : decode cX5_wall 13 = .ok (.invokevirtual 109, 3) := by decide +kernel
theorem dX5_wall_16 : decode cX5_wall 16 = .ok (.goto 14, 3) := by decide +kernel
theorem dX5_wall_19 : decode cX5_wall 19 = .ok (.aload_n 0, 1) := by decide +kernel
theorem dX5_wall_20 : decode cX5_wall 20 = .ok (.iload_n 1, 1) := by decide +kernel
theorem dX5_wall_21 : decode cX5_wall 21 = .ok (.iconst 3, 1) := by decide +kernel
theorem dX5_wall_22 : decode cX5_wall 22 = .ok (.iconst 1, 1) := by decide +kernel
theorem dX5_wall_23 : decode cX5_wall 23 = .ok (.bipush 20, 2) := by decide +kernel
theorem dX5_wall_25 : decode cX5_wall 25 = .ok (.iload_n 1, 1) := by decide +kernel
theorem dX5_wall_26 : decode cX5_wall 26 = .ok (.iload_n 2, 1) := by decide +kernel
theorem dX5_wall_27 : decode cX5_wall 27 = .ok (.invokevirtual 234, 3) := by decide +kernel
theorem dX5_wall_30 : decode cX5_wall 30 = .ok (.ireturn, 1) := by decide +kernel
theorem dX5_turn_0 : decode cX5_turn 0 = .ok (.aload_n 0, 1) := by decide +kernel
theorem dX5_turn_1 : decode cX5_turn 1 = .ok (.iload_n 1, 1) := by decide +kernel
theorem dX5_turn_2 : decode cX5_turn 2 = .ok (.iload_n 2, 1) := by decide +kernel
theorem dX5_turn_3 : decode cX5_turn 3 = .ok (.invokevirtual 198, 3) := by decide +kernel
theorem dX5_turn_6 : decode cX5_turn 6 = .ok (.istore_n 3, 1) := by decide +kernel
theorem dX5_turn_7 : decode cX5_turn 7 = .ok (.iload_n 3, 1) := by decide +kernel
theorem dX5_turn_8 : decode cX5_turn 8 = .ok (.ifCond .ne 16, 3) := by decide +kernel
theorem dX5_turn_11 : decode cX5_turn 11 = .ok (.aload_n 0, 1) := by decide +kernel
theorem dX5_turn_12 : decode cX5_turn 12 = .ok (.getfield 9, 3) := by decide +kernel
theorem dX5_turn_15 : decode cX5_turn 15 = .ok (.iconst 2, 1) := by decide +kernel
theorem dX5_turn_16 : decode cX5_turn 16 = .ok (.iaload, 1) := by decide +kernel
theorem dX5_turn_17 : decode cX5_turn 17 = .ok (.iconst 1, 1) := by decide +kernel
theorem dX5_turn_18 : decode cX5_turn 18 = .ok (.if_icmp .ne 6, 3) := by decide +kernel
theorem dX5_turn_21 : decode cX5_turn 21 = .ok (.ldc 163, 2) := by decide +kernel
theorem dX5_turn_23 : decode cX5_turn 23 = .ok (.istore_n 3, 1) := by decide +kernel
theorem dX5_turn_24 : decode cX5_turn 24 = .ok (.iload_n 3, 1) := by decide +kernel
theorem dX5_turn_25 : decode cX5_turn 25 = .ok (.ifCond .eq 9, 3) := by decide +kernel
theorem dX5_turn_28 : decode cX5_turn 28 = .ok (.aload_n 0, 1) := by decide +kernel
theorem dX5_turn_29 : decode cX5_turn 29 = .ok (.iload_n 3, 1) := by decide +kernel
theorem dX5_turn_30 : decode cX5_turn 30 = .ok (.invokevirtual 109, 3) := by decide +kernel
theorem dX5_turn_33 : decode cX5_turn 33 = .ok (.ireturn, 1) := by decide +kernel
theorem dX5_turn_34 : decode cX5_turn 34 = .ok (.aload_n 0, 1) := by decide +kernel
theorem dX5_turn_35 : decode cX5_turn 35 = .ok (.getfield 9, 3) := by decide +kernel
theorem dX5_turn_38 : decode cX5_turn 38 = .ok (.aload_n 0, 1) := by decide +kernel
theorem dX5_turn_39 : decode cX5_turn 39 = .ok (.getfield 16, 3) := by decide +kernel
theorem dX5_turn_42 : decode cX5_turn 42 = .ok (.invokestatic 93, 3) := by decide +kernel
theorem dX5_turn_45 : decode cX5_turn 45 = .ok (.iconst (-1), 1) := by decide +kernel
theorem dX5_turn_46 : decode cX5_turn 46 = .ok (.istore 4, 2) := by decide +kernel
theorem dX5_turn_48 : decode cX5_turn 48 = .ok (.iconst (-1), 1) := by decide +kernel
theorem dX5_turn_49 : decode cX5_turn 49 = .ok (.istore 5, 2) := by decide +kernel
theorem dX5_turn_51 : decode cX5_turn 51 = .ok (.iconst 0, 1) := by decide +kernel
theorem dX5_turn_52 : decode cX5_turn 52 = .ok (.istore 6, 2) := by decide +kernel
theorem dX5_turn_54 : decode cX5_turn 54 = .ok (.iload 6, 2) := by decide +kernel
theorem dX5_turn_56 : decode cX5_turn 56 = .ok (.aload_n 0, 1) := by decide +kernel
theorem dX5_turn_57 : decode cX5_turn 57 = .ok (.getfield 9, 3) := by decide +kernel
theorem dX5_turn_60 : decode cX5_turn 60 = .ok (.iconst 2, 1) := by decide +kernel
theorem dX5_turn_61 : decode cX5_turn 61 = .ok (.iaload, 1) := by decide +kernel
theorem dX5_turn_62 : decode cX5_turn 62 = .ok (.if_icmp .ge 61, 3) := by decide +kernel
theorem dX5_turn_65 : decode cX5_turn 65 = .ok (.iload 6, 2) := by decide +kernel
theorem dX5_turn_67 : decode cX5_turn 67 = .ok (.iload_n 1, 1) := by decide +kernel
theorem dX5_turn_68 : decode cX5_turn 68 = .ok (.if_icmp .eq 49, 3) := by decide +kernel
theorem dX5_turn_71 : decode cX5_turn 71 = .ok (.aload_n 0, 1) := by decide +kernel
theorem dX5_turn_72 : decode cX5_turn 72 = .ok (.getfield 9, 3) := by decide +kernel
theorem dX5_turn_75 : decode cX5_turn 75 = .ok (.iload_n 1, 1) := by decide +kernel
theorem dX5_turn_76 : decode cX5_turn 76 = .ok (.iconst 4, 1) := by decide +kernel
theorem dX5_turn_77 : decode cX5_turn 77 = .ok (.invokestatic 101, 3) := by decide +kernel
theorem dX5_turn_80 : decode cX5_turn 80 = .ok (.iload 6, 2) := by decide +kernel
theorem dX5_turn_82 : decode cX5_turn 82 = .ok (.iastore, 1) := by decide +kernel
theorem dX5_turn_83 : decode cX5_turn 83 = .ok (.aload_n 0, 1) := by decide +kernel
theorem dX5_turn_84 : decode cX5_turn 84 = .ok (.iload_n 2, 1) := by decide +kernel
theorem dX5_turn_85 : decode cX5_turn 85 = .ok (.invokevirtual 194, 3) := by decide +kernel
theorem dX5_turn_88 : decode cX5_turn 88 = .ok (.aload_n 0, 1) := by decide +kernel
theorem dX5_turn_89 : decode cX5_turn 89 = .ok (.invokevirtual 215, 3) := by decide +kernel
theorem dX5_turn_92 : decode cX5_turn 92 = .ok (.iload 5, 2) := by decide +kernel
theorem dX5_turn_94 : decode cX5_turn 94 = .ok (.if_icmp .le 8, 3) := by decide +kernel
theorem dX5_turn_97 : decode cX5_turn 97 = .ok (.iload 6, 2) := by decide +kernel
theorem dX5_turn_99 : decode cX5_turn 99 = .ok (.goto 5, 3) := by decide +kernel
theorem dX5_turn_102 : decode cX5_turn 102 = .ok (.iload 4, 2) := by decide +kernel
theorem dX5_turn_104 : decode cX5_turn 104 = .ok (.istore 4, 2) := by decide +kernel
theorem dX5_turn_106 : decode cX5_turn 106 = .ok (.iload 5, 2) := by decide +kernel
theorem dX5_turn_108 : decode cX5_turn 108 = .ok (.aload_n 0, 1) := by decide +kernel
theorem dX5_turn_109 : decode cX5_turn 109 = .ok (.invokevirtual 215, 3) := by decide +kernel
theorem dX5_turn_112 : decode cX5_turn 112 = .ok (.invokestatic 153, 3) := by decide +kernel
theorem dX5_turn_115 : decode cX5_turn 115 = .ok (.istore 5, 2) := by decide +kernel
theorem dX5_turn_117 : decode cX5_turn 117 = .ok (.iinc 6 1, 3) := by decide +kernel
theorem dX5_turn_120 : decode cX5_turn 120 = .ok (.goto (-66), 3) := by decide +kernel
theorem dX5_turn_123 : decode cX5_turn 123 = .ok (.iload 4, 2) := by decide +kernel
theorem dX5_turn_125 : decode cX5_turn 125 = .ok (.ireturn, 1) := by decide +kernel
theorem dX5_damper_0 : decode cX5_damper 0 = .ok (.aload_n 0, 1) := by decide +kernel
theorem dX5_damper_1 : decode cX5_damper 1 = .ok (.iload_n 1, 1) := by decide +kernel
theorem dX5_damper_2 : decode cX5_damper 2 = .ok (.iload_n 2, 1) := by decide +kernel
theorem dX5_damper_3 : decode cX5_damper 3 = .ok (.invokevirtual 198, 3) := by decide +kernel
theorem dX5_damper_6 : decode cX5_damper 6 = .ok (.istore_n 3, 1) := by decide +kernel
theorem dX5_damper_7 : decode cX5_damper 7 = .ok (.iload_n 3, 1) := by decide +kernel
theorem dX5_damper_8 : decode cX5_damper 8 = .ok (.ifCond .eq 11, 3) := by decide +kernel
theorem dX5_damper_11 : decode cX5_damper 11 = .ok (.aload_n 0, 1) := by decide +kernel
theorem dX5_damper_12 : decode cX5_damper 12 = .ok (.iload_n 3, 1) := by decide +kernel
theorem dX5_damper_13 : decode cX5_damper 13 = .ok (.invokevirtual 109, 3) := by decide +kernel
theorem dX5_damper_16 : decode cX5_damper 16 = .ok (.goto 12, 3) := by decide +kernel
theorem dX5_damper_19 : decode cX5_damper 19 = .ok (.aload_n 0, 1) := by decide +kernel
theorem dX5_damper_20 : decode cX5_damper 20 = .ok (.iload_n 1, 1) := by decide +kernel
theorem dX5_damper_21 : decode cX5_damper 21 = .ok (.bipush 6, 2) := by decide +kernel
theorem dX5_damper_23 : decode cX5_damper 23 = .ok (.iconst 4, 1) := by decide +kernel
theorem dX5_damper_24 : decode cX5_damper 24 = .ok (.iload_n 2, 1) := by decide +kernel
theorem dX5_damper_25 : decode cX5_damper 25 = .ok (.invokevirtual 204, 3) := by decide +kernel
theorem dX5_damper_28 : decode cX5_damper 28 = .ok (.ireturn, 1) := by decide +kernel
theorem dX5_own_0 : decode cX5_own 0 = .ok (.aload_n 0, 1) := by decide +kernel
theorem dX5_own_1 : decode cX5_own 1 = .ok (.iload_n 1, 1) := by decide +kernel
theorem dX5_own_2 : decode cX5_own 2 = .ok (.bipush 60, 2) := by decide +kernel
theorem dX5_own_4 : decode cX5_own 4 = .ok (.invokevirtual 208, 3) := by decide +kernel
theorem dX5_own_7 : decode cX5_own 7 = .ok (.istore_n 2, 1) := by decide +kernel
theorem dX5_own_8 : decode cX5_own 8 = .ok (.iload_n 2, 1) := by decide +kernel
theorem dX5_own_9 : decode cX5_own 9 = .ok (.ifCond .eq 9, 3) := by decide +kernel
theorem dX5_own_12 : decode cX5_own 12 = .ok (.aload_n 0, 1) := by decide +kernel
theorem dX5_own_13 : decode cX5_own 13 = .ok (.iload_n 2, 1) := by decide +kernel
theorem dX5_own_14 : decode cX5_own 14 = .ok (.invokevirtual 109, 3) := by decide +kernel
theorem dX5_own_17 : decode cX5_own 17 = .ok (.ireturn, 1) := by decide +kernel
theorem dX5_own_18 : decode cX5_own 18 = .ok (.aload_n 0, 1) := by decide +kernel
theorem dX5_own_19 : decode cX5_own 19 = .ok (.iload_n 1, 1) := by decide +kernel
theorem dX5_own_20 : decode cX5_own 20 = .ok (.invokevirtual 201, 3) := by decide +kernel
theorem dX5_own_23 : decode cX5_own 23 = .ok (.iconst 0, 1) := by decide +kernel
theorem dX5_own_24 : decode cX5_own 24 = .ok (.istore_n 3, 1) := by decide +kernel
theorem dX5_own_25 : decode cX5_own 25 = .ok (.iload_n 3, 1) := by decide +kernel
theorem dX5_own_26 : decode cX5_own 26 = .ok (.aload_n 0, 1) := by decide +kernel
theorem dX5_own_27 : decode cX5_own 27 = .ok (.getfield 9, 3) := by decide +kernel
theorem dX5_own_30 : decode cX5_own 30 = .ok (.iconst 2, 1) := by decide +kernel
theorem dX5_own_31 : decode cX5_own 31 = .ok (.iaload, 1) := by decide +kernel
theorem dX5_own_32 : decode cX5_own 32 = .ok (.if_icmp .ge 20, 3) := by decide +kernel
theorem dX5_own_35 : decode cX5_own 35 = .ok (.aload_n 0, 1) := by decide +kernel
theorem dX5_own_36 : decode cX5_own 36 = .ok (.getfield 9, 3) := by decide +kernel
theorem dX5_own_39 : decode cX5_own 39 = .ok (.iload_n 3, 1) := by decide +kernel
theorem dX5_own_40 : decode cX5_own 40 = .ok (.iconst 4, 1) := by decide +kernel
theorem dX5_own_41 : decode cX5_own 41 = .ok (.invokestatic 101, 3) := by decide +kernel
theorem dX5_own_44 : decode cX5_own 44 = .ok (.iload_n 3, 1) := by decide +kernel
theorem dX5_own_45 : decode cX5_own 45 = .ok (.iastore, 1) := by decide +kernel
theorem dX5_own_46 : decode cX5_own 46 = .ok (.iinc 3 1, 3) := by decide +kernel
theorem dX5_own_49 : decode cX5_own 49 = .ok (.goto (-24), 3) := by decide +kernel
theorem dX5_own_52 : decode cX5_own 52 = .ok (.aload_n 0, 1) := by decide +kernel
theorem dX5_own_53 : decode cX5_own 53 = .ok (.iload_n 1, 1) := by decide +kernel
theorem dX5_own_54 : decode cX5_own 54 = .ok (.invokevirtual 194, 3) := by decide +kernel
theorem dX5_own_57 : decode cX5_own 57 = .ok (.iconst 0, 1) := by decide +kernel
theorem dX5_own_58 : decode cX5_own 58 = .ok (.istore_n 3, 1) := by decide +kernel
theorem dX5_own_59 : decode cX5_own 59 = .ok (.iconst 0, 1) := by decide +kernel
theorem dX5_own_60 : decode cX5_own 60 = .ok (.istore 4, 2) := by decide +kernel
theorem dX5_own_62 : decode cX5_own 62 = .ok (.iload 4, 2) := by decide +kernel
theorem dX5_own_64 : decode cX5_own 64 = .ok (.aload_n 0, 1) := by decide +kernel
theorem dX5_own_65 : decode cX5_own 65 = .ok (.getfield 9, 3) := by decide +kernel
theorem dX5_own_68 : decode cX5_own 68 = .ok (.iconst 2, 1) := by decide +kernel
theorem dX5_own_69 : decode cX5_own 69 = .ok (.iaload, 1) := by decide +kernel
theorem dX5_own_70 : decode cX5_own 70 = .ok (.if_icmp .ge 37, 3) := by decide +kernel
theorem dX5_own_73 : decode cX5_own 73 = .ok (.iload_n 3, 1) := by decide +kernel
theorem dX5_own_74 : decode cX5_own 74 = .ok (.aload_n 0, 1) := by decide +kernel
theorem dX5_own_75 : decode cX5_own 75 = .ok (.getfield 34, 3) := by decide +kernel
theorem dX5_own_78 : decode cX5_own 78 = .ok (.iload 4, 2) := by decide +kernel
theorem dX5_own_80 : decode cX5_own 80 = .ok (.iaload, 1) := by decide +kernel
theorem dX5_own_81 : decode cX5_own 81 = .ok (.aload_n 0, 1) := by decide +kernel
theorem dX5_own_82 : decode cX5_own 82 = .ok (.getfield 37, 3) := by decide +kernel
theorem dX5_own_85 : decode cX5_own 85 = .ok (.iload 4, 2) := by decide +kernel
theorem dX5_own_87 : decode cX5_own 87 = .ok (.iaload, 1) := by decide +kernel
theorem dX5_own_88 : decode cX5_own 88 = .ok (.if_icmp .le 10, 3) := by decide +kernel
theorem dX5_own_91 : decode cX5_own 91 = .ok (.iconst 1, 1) := by decide +kernel
theorem dX5_own_92 : decode cX5_own 92 = .ok (.iload 4, 2) := by decide +kernel
theorem dX5_own_94 : decode cX5_own 94 = .ok (.ishl, 1) := by decide +kernel
theorem dX5_own_95 : decode cX5_own 95 = .ok (.goto 4, 3) := by decide +kernel
theorem dX5_own_98 : decode cX5_own 98 = .ok (.iconst 0, 1) := by decide +kernel
theorem dX5_own_99 : decode cX5_own 99 = .ok (.ior, 1) := by decide +kernel
theorem dX5_own_100 : decode cX5_own 100 = .ok (.istore_n 3, 1) := by decide +kernel
theorem dX5_own_101 : decode cX5_own 101 = .ok (.iinc 4 1, 3) := by decide +kernel
theorem dX5_own_104 : decode cX5_own 104 = .ok (.goto (-42), 3) := by decide +kernel
theorem dX5_own_107 : decode cX5_own 107 = .ok (.iload_n 3, 1) := by decide +kernel
theorem dX5_own_108 : decode cX5_own 108 = .ok (.ireturn, 1) := by decide +kernel
theorem dX5_fits_0 : decode cX5_fits 0 = .ok (.iconst 0, 1) := by decide +kernel
theorem dX5_fits_1 : decode cX5_fits 1 = .ok (.istore_n 2, 1) := by decide +kernel
theorem dX5_fits_2 : decode cX5_fits 2 = .ok (.iload_n 2, 1) := by decide +kernel
theorem dX5_fits_3 : decode cX5_fits 3 = .ok (.aload_n 0, 1) := by decide +kernel
theorem dX5_fits_4 : decode cX5_fits 4 = .ok (.getfield 9, 3) := by decide +kernel
theorem dX5_fits_7 : decode cX5_fits 7 = .ok (.iconst 2, 1) := by decide +kernel
theorem dX5_fits_8 : decode cX5_fits 8 = .ok (.iaload, 1) := by decide +kernel
theorem dX5_fits_9 : decode cX5_fits 9 = .ok (.if_icmp .ge 28, 3) := by decide +kernel
theorem dX5_fits_12 : decode cX5_fits 12 = .ok (.aload_n 0, 1) := by decide +kernel
theorem dX5_fits_13 : decode cX5_fits 13 = .ok (.getfield 28, 3) := by decide +kernel
theorem dX5_fits_16 : decode cX5_fits 16 = .ok (.iload_n 2, 1) := by decide +kernel
theorem dX5_fits_17 : decode cX5_fits 17 = .ok (.iload_n 1, 1) := by decide +kernel
theorem dX5_fits_18 : decode cX5_fits 18 = .ok (.iload_n 2, 1) := by decide +kernel
theorem dX5_fits_19 : decode cX5_fits 19 = .ok (.invokestatic 140, 3) := by decide +kernel
theorem dX5_fits_22 : decode cX5_fits 22 = .ok (.ifCond .eq 7, 3) := by decide +kernel
theorem dX5_fits_25 : decode cX5_fits 25 = .ok (.iconst 0, 1) := by decide +kernel
theorem dX5_fits_26 : decode cX5_fits 26 = .ok (.goto 4, 3) := by decide +kernel
theorem dX5_fits_29 : decode cX5_fits 29 = .ok (.iconst 1, 1) := by decide +kernel
theorem dX5_fits_30 : decode cX5_fits 30 = .ok (.iastore, 1) := by decide +kernel
theorem dX5_fits_31 : decode cX5_fits 31 = .ok (.iinc 2 1, 3) := by decide +kernel
theorem dX5_fits_34 : decode cX5_fits 34 = .ok (.goto (-32), 3) := by decide +kernel
theorem dX5_fits_37 : decode cX5_fits 37 = .ok (.iconst 1, 1) := by decide +kernel
theorem dX5_fits_38 : decode cX5_fits 38 = .ok (.istore_n 2, 1) := by decide +kernel
theorem dX5_fits_39 : decode cX5_fits 39 = .ok (.iconst 0, 1) := by decide +kernel
theorem dX5_fits_40 : decode cX5_fits 40 = .ok (.istore_n 3, 1) := by decide +kernel
theorem dX5_fits_41 : decode cX5_fits 41 = .ok (.iload_n 3, 1) := by decide +kernel
theorem dX5_fits_42 : decode cX5_fits 42 = .ok (.aload_n 0, 1) := by decide +kernel
theorem dX5_fits_43 : decode cX5_fits 43 = .ok (.getfield 9, 3) := by decide +kernel
theorem dX5_fits_46 : decode cX5_fits 46 = .ok (.iconst 2, 1) := by decide +kernel
theorem dX5_fits_47 : decode cX5_fits 47 = .ok (.iaload, 1) := by decide +kernel
theorem dX5_fits_48 : decode cX5_fits 48 = .ok (.if_icmp .ge 34, 3) := by decide +kernel
theorem dX5_fits_51 : decode cX5_fits 51 = .ok (.iload_n 2, 1) := by decide +kernel
theorem dX5_fits_52 : decode cX5_fits 52 = .ok (.ifCond .eq 22, 3) := by decide +kernel
theorem dX5_fits_55 : decode cX5_fits 55 = .ok (.aload_n 0, 1) := by decide +kernel
theorem dX5_fits_56 : decode cX5_fits 56 = .ok (.iload_n 3, 1) := by decide +kernel
theorem dX5_fits_57 : decode cX5_fits 57 = .ok (.invokevirtual 150, 3) := by decide +kernel
theorem dX5_fits_60 : decode cX5_fits 60 = .ok (.aload_n 0, 1) := by decide +kernel
theorem dX5_fits_61 : decode cX5_fits 61 = .ok (.iload_n 3, 1) := by decide +kernel
theorem dX5_fits_62 : decode cX5_fits 62 = .ok (.bipush 7, 2) := by decide +kernel
theorem dX5_fits_64 : decode cX5_fits 64 = .ok (.invokevirtual 120, 3) := by decide +kernel
theorem dX5_fits_67 : decode cX5_fits 67 = .ok (.if_icmp .ne 7, 3) := by decide +kernel
theorem dX5_fits_70 : decode cX5_fits 70 = .ok (.iconst 1, 1) := by decide +kernel
theorem dX5_fits_71 : decode cX5_fits 71 = .ok (.goto 4, 3) := by decide +kernel
theorem dX5_fits_74 : decode cX5_fits 74 = .ok (.iconst 0, 1) := by decide +kernel
theorem dX5_fits_75 : decode cX5_fits 75 = .ok (.istore_n 2, 1) := by decide +kernel
theorem dX5_fits_76 : decode cX5_fits 76 = .ok (.iinc 3 1, 3) := by decide +kernel
theorem dX5_fits_79 : decode cX5_fits 79 = .ok (.goto (-38), 3) := by decide +kernel
theorem dX5_fits_82 : decode cX5_fits 82 = .ok (.iload_n 2, 1) := by decide +kernel
theorem dX5_fits_83 : decode cX5_fits 83 = .ok (.ireturn, 1) := by decide +kernel
theorem dX5_findCulprits_0 : decode cX5_findCulprits 0 = .ok (.iconst 0, 1) := by decide +kernel
theorem dX5_findCulprits_1 : decode cX5_findCulprits 1 = .ok (.istore_n 1, 1) := by decide +kernel
theorem dX5_findCulprits_2 : decode cX5_findCulprits 2 = .ok (.aload_n 0, 1) := by decide +kernel
theorem dX5_findCulprits_3 : decode cX5_findCulprits 3 = .ok (.iconst (-1), 1) := by decide +kernel
theorem dX5_findCulprits_4 : decode cX5_findCulprits 4 = .ok (.putfield 238, 3) := by decide +kernel
theorem dX5_findCulprits_7 : decode cX5_findCulprits 7 = .ok (.aload_n 0, 1) := by decide +kernel
theorem dX5_findCulprits_8 : decode cX5_findCulprits 8 = .ok (.iconst 0, 1) := by decide +kernel
theorem dX5_findCulprits_9 : decode cX5_findCulprits 9 = .ok (.putfield 241, 3) := by decide +kernel
theorem dX5_findCulprits_12 : decode cX5_findCulprits 12 = .ok (.aload_n 0, 1) := by decide +kernel
theorem dX5_findCulprits_13 : decode cX5_findCulprits 13 = .ok (.iconst (-1), 1) := by decide +kernel
theorem dX5_findCulprits_14 : decode cX5_findCulprits 14 = .ok (.putfield 244, 3) := by decide +kernel
theorem dX5_findCulprits_17 : decode cX5_findCulprits 17 = .ok (.iconst 0, 1) := by decide +kernel
theorem dX5_findCulprits_18 : decode cX5_findCulprits 18 = .ok (.istore_n 2, 1) := by decide +kernel
theorem dX5_findCulprits_19 : decode cX5_findCulprits 19 = .ok (.iload_n 2, 1) := by decide +kernel
theorem dX5_findCulprits_20 : decode cX5_findCulprits 20 = .ok (.iconst 1, 1) := by decide +kernel
theorem dX5_findCulprits_21 : decode cX5_findCulprits 21 = .ok (.aload_n 0, 1) := by decide +kernel
theorem dX5_findCulprits_22 : decode cX5_findCulprits 22 = .ok (.getfield 9, 3) := by decide +kernel
theorem dX5_findCulprits_25 : decode cX5_findCulprits 25 = .ok (.iconst 2, 1) := by decide +kernel
theorem dX5_findCulprits_26 : decode cX5_findCulprits 26 = .ok (.iaload, 1) := by decide +kernel
theorem dX5_findCulprits_27 : decode cX5_findCulprits 27 = .ok (.ishl, 1) := by decide +kernel
theorem dX5_findCulprits_28 : decode cX5_findCulprits 28 = .ok (.if_icmp .ge 59, 3) := by decide +kernel
theorem dX5_findCulprits_31 : decode cX5_findCulprits 31 = .ok (.aload_n 0, 1) := by decide +kernel
theorem dX5_findCulprits_32 : decode cX5_findCulprits 32 = .ok (.iload_n 2, 1) := by decide +kernel
theorem dX5_findCulprits_33 : decode cX5_findCulprits 33 = .ok (.invokevirtual 247, 3) := by decide +kernel
theorem dX5_findCulprits_36 : decode cX5_findCulprits 36 = .ok (.ifCond .eq 45, 3) := by decide +kernel
theorem dX5_findCulprits_39 : decode cX5_findCulprits 39 = .ok (.iinc 1 1, 3) := by decide +kernel
theorem dX5_findCulprits_42 : decode cX5_findCulprits 42 = .ok (.aload_n 0, 1) := by decide +kernel
theorem dX5_findCulprits_43 : decode cX5_findCulprits 43 = .ok (.dup, 1) := by decide +kernel
theorem dX5_findCulprits_44 : decode cX5_findCulprits 44 = .ok (.getfield 238, 3) := by decide +kernel
theorem dX5_findCulprits_47 : decode cX5_findCulprits 47 = .ok (.iload_n 2, 1) := by decide +kernel
theorem dX5_findCulprits_48 : decode cX5_findCulprits 48 = .ok (.iand, 1) := by decide +kernel
theorem dX5_findCulprits_49 : decode cX5_findCulprits 49 = .ok (.putfield 238, 3) := by decide +kernel
theorem dX5_findCulprits_52 : decode cX5_findCulprits 52 = .ok (.aload_n 0, 1) := by decide +kernel
theorem dX5_findCulprits_53 : decode cX5_findCulprits 53 = .ok (.dup, 1) := by decide +kernel
theorem dX5_findCulprits_54 : decode cX5_findCulprits 54 = .ok (.getfield 241, 3) := by decide +kernel
theorem dX5_findCulprits_57 : decode cX5_findCulprits 57 = .ok (.iload_n 2, 1) := by decide +kernel
theorem dX5_findCulprits_58 : decode cX5_findCulprits 58 = .ok (.ior, 1) := by decide +kernel
theorem dX5_findCulprits_59 : decode cX5_findCulprits 59 = .ok (.putfield 241, 3) := by decide +kernel
theorem dX5_findCulprits_62 : decode cX5_findCulprits 62 = .ok (.aload_n 0, 1) := by decide +kernel
theorem dX5_findCulprits_63 : decode cX5_findCulprits 63 = .ok (.aload_n 0, 1) := by decide +kernel
theorem dX5_findCulprits_64 : decode cX5_findCulprits 64 = .ok (.getfield 244, 3) := by decide +kernel
theorem dX5_findCulprits_67 : decode cX5_findCulprits 67 = .ok (.ifCond .ge 7, 3) := by decide +kernel
theorem dX5_findCulprits_70 : decode cX5_findCulprits 70 = .ok (.iload_n 2, 1) := by decide +kernel
theorem dX5_findCulprits_71 : decode cX5_findCulprits 71 = .ok (.goto 7, 3) := by decide +kernel
theorem dX5_findCulprits_74 : decode cX5_findCulprits 74 = .ok (.aload_n 0, 1) := by decide +kernel
theorem dX5_findCulprits_75 : decode cX5_findCulprits 75 = .ok (.getfield 244, 3) := by decide +kernel
theorem dX5_findCulprits_78 : decode cX5_findCulprits 78 = .ok (.putfield 244, 3) := by decide +kernel
theorem dX5_findCulprits_81 : decode cX5_findCulprits 81 = .ok (.iinc 2 1, 3) := by decide +kernel
theorem dX5_findCulprits_84 : decode cX5_findCulprits 84 = .ok (.goto (-65), 3) := by decide +kernel
theorem dX5_findCulprits_87 : decode cX5_findCulprits 87 = .ok (.iload_n 1, 1) := by decide +kernel
theorem dX5_findCulprits_88 : decode cX5_findCulprits 88 = .ok (.ireturn, 1) := by decide +kernel
theorem dX5_culprits_0 : decode cX5_culprits 0 = .ok (.aload_n 0, 1) := by decide +kernel
theorem dX5_culprits_1 : decode cX5_culprits 1 = .ok (.invokevirtual 250, 3) := by decide +kernel
theorem dX5_culprits_4 : decode cX5_culprits 4 = .ok (.ireturn, 1) := by decide +kernel
theorem dX5_surely_0 : decode cX5_surely 0 = .ok (.iload_n 1, 1) := by decide +kernel
theorem dX5_surely_1 : decode cX5_surely 1 = .ok (.iconst 0, 1) := by decide +kernel
theorem dX5_surely_2 : decode cX5_surely 2 = .ok (.iconst 2, 1) := by decide +kernel
theorem dX5_surely_3 : decode cX5_surely 3 = .ok (.invokestatic 97, 3) := by decide +kernel
theorem dX5_surely_6 : decode cX5_surely 6 = .ok (.ifCond .ne 10, 3) := by decide +kernel
theorem dX5_surely_9 : decode cX5_surely 9 = .ok (.aload_n 0, 1) := by decide +kernel
theorem dX5_surely_10 : decode cX5_surely 10 = .ok (.ldc 92, 2) := by decide +kernel
theorem dX5_surely_12 : decode cX5_surely 12 = .ok (.invokevirtual 109, 3) := by decide +kernel
theorem dX5_surely_15 : decode cX5_surely 15 = .ok (.ireturn, 1) := by decide +kernel
theorem dX5_surely_16 : decode cX5_surely 16 = .ok (.aload_n 0, 1) := by decide +kernel
theorem dX5_surely_17 : decode cX5_surely 17 = .ok (.invokevirtual 250, 3) := by decide +kernel
theorem dX5_surely_20 : decode cX5_surely 20 = .ok (.ifCond .ne 10, 3) := by decide +kernel
theorem dX5_surely_23 : decode cX5_surely 23 = .ok (.aload_n 0, 1) := by decide +kernel
theorem dX5_surely_24 : decode cX5_surely 24 = .ok (.ldc 186, 2) := by decide +kernel
theorem dX5_surely_26 : decode cX5_surely 26 = .ok (.invokevirtual 109, 3) := by decide +kernel
theorem dX5_surely_29 : decode cX5_surely 29 = .ok (.ireturn, 1) := by decide +kernel
theorem dX5_surely_30 : decode cX5_surely 30 = .ok (.iload_n 1, 1) := by decide +kernel
theorem dX5_surely_31 : decode cX5_surely 31 = .ok (.ifCond .ne 10, 3) := by decide +kernel
theorem dX5_surely_34 : decode cX5_surely 34 = .ok (.aload_n 0, 1) := by decide +kernel
theorem dX5_surely_35 : decode cX5_surely 35 = .ok (.getfield 238, 3) := by decide +kernel
theorem dX5_surely_38 : decode cX5_surely 38 = .ok (.goto 19, 3) := by decide +kernel
theorem dX5_surely_41 : decode cX5_surely 41 = .ok (.iload_n 1, 1) := by decide +kernel
theorem dX5_surely_42 : decode cX5_surely 42 = .ok (.iconst 1, 1) := by decide +kernel
theorem dX5_surely_43 : decode cX5_surely 43 = .ok (.if_icmp .ne 10, 3) := by decide +kernel
theorem dX5_surely_46 : decode cX5_surely 46 = .ok (.aload_n 0, 1) := by decide +kernel
theorem dX5_surely_47 : decode cX5_surely 47 = .ok (.getfield 241, 3) := by decide +kernel
theorem dX5_surely_50 : decode cX5_surely 50 = .ok (.goto 7, 3) := by decide +kernel
theorem dX5_surely_53 : decode cX5_surely 53 = .ok (.aload_n 0, 1) := by decide +kernel
theorem dX5_surely_54 : decode cX5_surely 54 = .ok (.getfield 244, 3) := by decide +kernel
theorem dX5_surely_57 : decode cX5_surely 57 = .ok (.ireturn, 1) := by decide +kernel
theorem dX5_drawn_0 : decode cX5_drawn 0 = .ok (.aload_n 0, 1) := by decide +kernel
theorem dX5_drawn_1 : decode cX5_drawn 1 = .ok (.getfield 9, 3) := by decide +kernel
theorem dX5_drawn_4 : decode cX5_drawn 4 = .ok (.iconst 3, 1) := by decide +kernel
theorem dX5_drawn_5 : decode cX5_drawn 5 = .ok (.aload_n 0, 1) := by decide +kernel
theorem dX5_drawn_6 : decode cX5_drawn 6 = .ok (.getfield 9, 3) := by decide +kernel
theorem dX5_drawn_9 : decode cX5_drawn 9 = .ok (.iconst 3, 1) := by decide +kernel
theorem dX5_drawn_10 : decode cX5_drawn 10 = .ok (.iaload, 1) := by decide +kernel
theorem dX5_drawn_11 : decode cX5_drawn 11 = .ok (.ldc 253, 2) := by decide +kernel
theorem dX5_drawn_13 : decode cX5_drawn 13 = .ok (.imul, 1) := by decide +kernel
theorem dX5_drawn_14 : decode cX5_drawn 14 = .ok (.sipush 12345, 3) := by decide +kernel
theorem dX5_drawn_17 : decode cX5_drawn 17 = .ok (.iadd, 1) := by decide +kernel
theorem dX5_drawn_18 : decode cX5_drawn 18 = .ok (.iastore, 1) := by decide +kernel
theorem dX5_drawn_19 : decode cX5_drawn 19 = .ok (.aload_n 0, 1) := by decide +kernel
theorem dX5_drawn_20 : decode cX5_drawn 20 = .ok (.getfield 9, 3) := by decide +kernel
theorem dX5_drawn_23 : decode cX5_drawn 23 = .ok (.iconst 3, 1) := by decide +kernel
theorem dX5_drawn_24 : decode cX5_drawn 24 = .ok (.iaload, 1) := by decide +kernel
theorem dX5_drawn_25 : decode cX5_drawn 25 = .ok (.bipush 8, 2) := by decide +kernel
theorem dX5_drawn_27 : decode cX5_drawn 27 = .ok (.iushr, 1) := by decide +kernel
theorem dX5_drawn_28 : decode cX5_drawn 28 = .ok (.iload_n 1, 1) := by decide +kernel
theorem dX5_drawn_29 : decode cX5_drawn 29 = .ok (.irem, 1) := by decide +kernel
theorem dX5_drawn_30 : decode cX5_drawn 30 = .ok (.ireturn, 1) := by decide +kernel
theorem dX5_aways_0 : decode cX5_aways 0 = .ok (.iconst 0, 1) := by decide +kernel
theorem dX5_aways_1 : decode cX5_aways 1 = .ok (.istore_n 1, 1) := by decide +kernel
theorem dX5_aways_2 : decode cX5_aways 2 = .ok (.iconst 0, 1) := by decide +kernel
theorem dX5_aways_3 : decode cX5_aways 3 = .ok (.istore_n 2, 1) := by decide +kernel
theorem dX5_aways_4 : decode cX5_aways 4 = .ok (.iload_n 2, 1) := by decide +kernel
theorem dX5_aways_5 : decode cX5_aways 5 = .ok (.aload_n 0, 1) := by decide +kernel
theorem dX5_aways_6 : decode cX5_aways 6 = .ok (.getfield 9, 3) := by decide +kernel
theorem dX5_aways_9 : decode cX5_aways 9 = .ok (.iconst 2, 1) := by decide +kernel
theorem dX5_aways_10 : decode cX5_aways 10 = .ok (.iaload, 1) := by decide +kernel
theorem dX5_aways_11 : decode cX5_aways 11 = .ok (.if_icmp .ge 20, 3) := by decide +kernel
theorem dX5_aways_14 : decode cX5_aways 14 = .ok (.iload_n 1, 1) := by decide +kernel
theorem dX5_aways_15 : decode cX5_aways 15 = .ok (.aload_n 0, 1) := by decide +kernel
theorem dX5_aways_16 : decode cX5_aways 16 = .ok (.iload_n 2, 1) := by decide +kernel
theorem dX5_aways_17 : decode cX5_aways 17 = .ok (.iconst 5, 1) := by decide +kernel
theorem dX5_aways_18 : decode cX5_aways 18 = .ok (.invokevirtual 120, 3) := by decide +kernel
theorem dX5_aways_21 : decode cX5_aways 21 = .ok (.iload_n 2, 1) := by decide +kernel
theorem dX5_aways_22 : decode cX5_aways 22 = .ok (.ishl, 1) := by decide +kernel
theorem dX5_aways_23 : decode cX5_aways 23 = .ok (.ior, 1) := by decide +kernel
theorem dX5_aways_24 : decode cX5_aways 24 = .ok (.istore_n 1, 1) := by decide +kernel
theorem dX5_aways_25 : decode cX5_aways 25 = .ok (.iinc 2 1, 3) := by decide +kernel
theorem dX5_aways_28 : decode cX5_aways 28 = .ok (.goto (-24), 3) := by decide +kernel
theorem dX5_aways_31 : decode cX5_aways 31 = .ok (.iload_n 1, 1) := by decide +kernel
theorem dX5_aways_32 : decode cX5_aways 32 = .ok (.ireturn, 1) := by decide +kernel
theorem dX5_travel_0 : decode cX5_travel 0 = .ok (.iload_n 1, 1) := by decide +kernel
theorem dX5_travel_1 : decode cX5_travel 1 = .ok (.iconst 1, 1) := by decide +kernel
theorem dX5_travel_2 : decode cX5_travel 2 = .ok (.bipush 12, 2) := by decide +kernel
theorem dX5_travel_4 : decode cX5_travel 4 = .ok (.invokestatic 97, 3) := by decide +kernel
theorem dX5_travel_7 : decode cX5_travel 7 = .ok (.ifCond .ne 10, 3) := by decide +kernel
theorem dX5_travel_10 : decode cX5_travel 10 = .ok (.aload_n 0, 1) := by decide +kernel
theorem dX5_travel_11 : decode cX5_travel 11 = .ok (.ldc 92, 2) := by decide +kernel
theorem dX5_travel_13 : decode cX5_travel 13 = .ok (.invokevirtual 109, 3) := by decide +kernel
theorem dX5_travel_16 : decode cX5_travel 16 = .ok (.ireturn, 1) := by decide +kernel
theorem dX5_travel_17 : decode cX5_travel 17 = .ok (.aload_n 0, 1) := by decide +kernel
theorem dX5_travel_18 : decode cX5_travel 18 = .ok (.getfield 9, 3) := by decide +kernel
theorem dX5_travel_21 : decode cX5_travel 21 = .ok (.iconst 2, 1) := by decide +kernel
theorem dX5_travel_22 : decode cX5_travel 22 = .ok (.iaload, 1) := by decide +kernel
theorem dX5_travel_23 : decode cX5_travel 23 = .ok (.ifCond .ne 10, 3) := by decide +kernel
theorem dX5_travel_26 : decode cX5_travel 26 = .ok (.aload_n 0, 1) := by decide +kernel
theorem dX5_travel_27 : decode cX5_travel 27 = .ok (.ldc 163, 2) := by decide +kernel
theorem dX5_travel_29 : decode cX5_travel 29 = .ok (.invokevirtual 109, 3) := by decide +kernel
theorem dX5_travel_32 : decode cX5_travel 32 = .ok (.ireturn, 1) := by decide +kernel
theorem dX5_travel_33 : decode cX5_travel 33 = .ok (.iconst 0, 1) := by decide +kernel
theorem dX5_travel_34 : decode cX5_travel 34 = .ok (.istore_n 2, 1) := by decide +kernel
theorem dX5_travel_35 : decode cX5_travel 35 = .ok (.iload_n 2, 1) := by decide +kernel
theorem dX5_travel_36 : decode cX5_travel 36 = .ok (.iload_n 1, 1) := by decide +kernel
theorem dX5_travel_37 : decode cX5_travel 37 = .ok (.if_icmp .ge 38, 3) := by decide +kernel
theorem dX5_travel_40 : decode cX5_travel 40 = .ok (.aload_n 0, 1) := by decide +kernel
theorem dX5_travel_41 : decode cX5_travel 41 = .ok (.aload_n 0, 1) := by decide +kernel
theorem dX5_travel_42 : decode cX5_travel 42 = .ok (.getfield 9, 3) := by decide +kernel
theorem dX5_travel_45 : decode cX5_travel 45 = .ok (.iconst 2, 1) := by decide +kernel
theorem dX5_travel_46 : decode cX5_travel 46 = .ok (.iaload, 1) := by decide +kernel
theorem dX5_travel_47 : decode cX5_travel 47 = .ok (.invokevirtual 254, 3) := by decide +kernel
theorem dX5_travel_50 : decode cX5_travel 50 = .ok (.istore_n 3, 1) := by decide +kernel
theorem dX5_travel_51 : decode cX5_travel 51 = .ok (.aload_n 0, 1) := by decide +kernel
theorem dX5_travel_52 : decode cX5_travel 52 = .ok (.getfield 9, 3) := by decide +kernel
theorem dX5_travel_55 : decode cX5_travel 55 = .ok (.iload_n 3, 1) := by decide +kernel
theorem dX5_travel_56 : decode cX5_travel 56 = .ok (.iconst 5, 1) := by decide +kernel
theorem dX5_travel_57 : decode cX5_travel 57 = .ok (.invokestatic 101, 3) := by decide +kernel
theorem dX5_travel_60 : decode cX5_travel 60 = .ok (.iconst 1, 1) := by decide +kernel
theorem dX5_travel_61 : decode cX5_travel 61 = .ok (.aload_n 0, 1) := by decide +kernel
theorem dX5_travel_62 : decode cX5_travel 62 = .ok (.iload_n 3, 1) := by decide +kernel
theorem dX5_travel_63 : decode cX5_travel 63 = .ok (.iconst 5, 1) := by decide +kernel
theorem dX5_travel_64 : decode cX5_travel 64 = .ok (.invokevirtual 120, 3) := by decide +kernel
theorem dX5_travel_67 : decode cX5_travel 67 = .ok (.isub, 1) := by decide +kernel
theorem dX5_travel_68 : decode cX5_travel 68 = .ok (.iastore, 1) := by decide +kernel
theorem dX5_travel_69 : decode cX5_travel 69 = .ok (.iinc 2 1, 3) := by decide +kernel
theorem dX5_travel_72 : decode cX5_travel 72 = .ok (.goto (-37), 3) := by decide +kernel
theorem dX5_travel_75 : decode cX5_travel 75 = .ok (.aload_n 0, 1) := by decide +kernel
theorem dX5_travel_76 : decode cX5_travel 76 = .ok (.invokevirtual 257, 3) := by decide +kernel
theorem dX5_travel_79 : decode cX5_travel 79 = .ok (.ireturn, 1) := by decide +kernel
theorem dX5_seed_0 : decode cX5_seed 0 = .ok (.aload_n 0, 1) := by decide +kernel
theorem dX5_seed_1 : decode cX5_seed 1 = .ok (.iconst 3, 1) := by decide +kernel
theorem dX5_seed_2 : decode cX5_seed 2 = .ok (.iload_n 1, 1) := by decide +kernel
theorem dX5_seed_3 : decode cX5_seed 3 = .ok (.invokevirtual 134, 3) := by decide +kernel
theorem dX5_seed_6 : decode cX5_seed 6 = .ok (.ireturn, 1) := by decide +kernel
theorem dX5_feed_0 : decode cX5_feed 0 = .ok (.iload_n 2, 1) := by decide +kernel
theorem dX5_feed_1 : decode cX5_feed 1 = .ok (.iconst 1, 1) := by decide +kernel
theorem dX5_feed_2 : decode cX5_feed 2 = .ok (.iconst 4, 1) := by decide +kernel
theorem dX5_feed_3 : decode cX5_feed 3 = .ok (.invokestatic 97, 3) := by decide +kernel
theorem dX5_feed_6 : decode cX5_feed 6 = .ok (.ifCond .ne 10, 3) := by decide +kernel
theorem dX5_feed_9 : decode cX5_feed 9 = .ok (.aload_n 0, 1) := by decide +kernel
theorem dX5_feed_10 : decode cX5_feed 10 = .ok (.ldc 92, 2) := by decide +kernel
theorem dX5_feed_12 : decode cX5_feed 12 = .ok (.invokevirtual 109, 3) := by decide +kernel
theorem dX5_feed_15 : decode cX5_feed 15 = .ok (.ireturn, 1) := by decide +kernel
theorem dX5_feed_16 : decode cX5_feed 16 = .ok (.aload_n 0, 1) := by decide +kernel
theorem dX5_feed_17 : decode cX5_feed 17 = .ok (.getfield 260, 3) := by decide +kernel
theorem dX5_feed_20 : decode cX5_feed 20 = .ok (.iload_n 2, 1) := by decide +kernel
theorem dX5_feed_21 : decode cX5_feed 21 = .ok (.iadd, 1) := by decide +kernel
theorem dX5_feed_22 : decode cX5_feed 22 = .ok (.bipush 120, 2) := by decide +kernel
theorem dX5_feed_24 : decode cX5_feed 24 = .ok (.if_icmp .le 10, 3) := by decide +kernel
theorem dX5_feed_27 : decode cX5_feed 27 = .ok (.aload_n 0, 1) := by decide +kernel
theorem dX5_feed_28 : decode cX5_feed 28 = .ok (.ldc 113, 2) := by decide +kernel
theorem dX5_feed_30 : decode cX5_feed 30 = .ok (.invokevirtual 109, 3) := by decide +kernel
theorem dX5_feed_33 : decode cX5_feed 33 = .ok (.ireturn, 1) := by decide +kernel
theorem dX5_feed_34 : decode cX5_feed 34 = .ok (.iload_n 2, 1) := by decide +kernel
theorem dX5_feed_35 : decode cX5_feed 35 = .ok (.iconst 1, 1) := by decide +kernel
theorem dX5_feed_36 : decode cX5_feed 36 = .ok (.isub, 1) := by decide +kernel
theorem dX5_feed_37 : decode cX5_feed 37 = .ok (.istore_n 3, 1) := by decide +kernel
theorem dX5_feed_38 : decode cX5_feed 38 = .ok (.iload_n 3, 1) := by decide +kernel
theorem dX5_feed_39 : decode cX5_feed 39 = .ok (.ifCond .lt 38, 3) := by decide +kernel
theorem dX5_feed_42 : decode cX5_feed 42 = .ok (.aload_n 0, 1) := by decide +kernel
theorem dX5_feed_43 : decode cX5_feed 43 = .ok (.getfield 43, 3) := by decide +kernel
theorem dX5_feed_46 : decode cX5_feed 46 = .ok (.aload_n 0, 1) := by decide +kernel
theorem dX5_feed_47 : decode cX5_feed 47 = .ok (.getfield 260, 3) := by decide +kernel
theorem dX5_feed_50 : decode cX5_feed 50 = .ok (.iload_n 1, 1) := by decide +kernel
theorem dX5_feed_51 : decode cX5_feed 51 = .ok (.bipush 8, 2) := by decide +kernel
theorem dX5_feed_53 : decode cX5_feed 53 = .ok (.iload_n 3, 1) := by decide +kernel
theorem dX5_feed_54 : decode cX5_feed 54 = .ok (.imul, 1) := by decide +kernel
theorem dX5_feed_55 : decode cX5_feed 55 = .ok (.ishr, 1) := by decide +kernel
theorem dX5_feed_56 : decode cX5_feed 56 = .ok (.sipush 255, 3) := by decide +kernel
theorem dX5_feed_59 : decode cX5_feed 59 = .ok (.iand, 1) := by decide +kernel
theorem dX5_feed_60 : decode cX5_feed 60 = .ok (.iastore, 1) := by decide +kernel
theorem dX5_feed_61 : decode cX5_feed 61 = .ok (.aload_n 0, 1) := by decide +kernel
theorem dX5_feed_62 : decode cX5_feed 62 = .ok (.dup, 1) := by decide +kernel
theorem dX5_feed_63 : decode cX5_feed 63 = .ok (.getfield 260, 3) := by decide +kernel
theorem dX5_feed_66 : decode cX5_feed 66 = .ok (.iconst 1, 1) := by decide +kernel
theorem dX5_feed_67 : decode cX5_feed 67 = .ok (.iadd, 1) := by decide +kernel
theorem dX5_feed_68 : decode cX5_feed 68 = .ok (.putfield 260, 3) := by decide +kernel
theorem dX5_feed_71 : decode cX5_feed 71 = .ok (.iinc 3 (-1), 3) := by decide +kernel
theorem dX5_feed_74 : decode cX5_feed 74 = .ok (.goto (-36), 3) := by decide +kernel
theorem dX5_feed_77 : decode cX5_feed 77 = .ok (.aload_n 0, 1) := by decide +kernel
theorem dX5_feed_78 : decode cX5_feed 78 = .ok (.getfield 260, 3) := by decide +kernel
theorem dX5_feed_81 : decode cX5_feed 81 = .ok (.ireturn, 1) := by decide +kernel
theorem dX5_wipe_0 : decode cX5_wipe 0 = .ok (.aload_n 0, 1) := by decide +kernel
theorem dX5_wipe_1 : decode cX5_wipe 1 = .ok (.getfield 260, 3) := by decide +kernel
theorem dX5_wipe_4 : decode cX5_wipe 4 = .ok (.istore_n 1, 1) := by decide +kernel
theorem dX5_wipe_5 : decode cX5_wipe 5 = .ok (.aload_n 0, 1) := by decide +kernel
theorem dX5_wipe_6 : decode cX5_wipe 6 = .ok (.iconst 0, 1) := by decide +kernel
theorem dX5_wipe_7 : decode cX5_wipe 7 = .ok (.putfield 260, 3) := by decide +kernel
theorem dX5_wipe_10 : decode cX5_wipe 10 = .ok (.iload_n 1, 1) := by decide +kernel
theorem dX5_wipe_11 : decode cX5_wipe 11 = .ok (.ireturn, 1) := by decide +kernel
theorem dX5_byteAt_0 : decode cX5_byteAt 0 = .ok (.iload_n 1, 1) := by decide +kernel
theorem dX5_byteAt_1 : decode cX5_byteAt 1 = .ok (.aload_n 0, 1) := by decide +kernel
theorem dX5_byteAt_2 : decode cX5_byteAt 2 = .ok (.getfield 260, 3) := by decide +kernel
theorem dX5_byteAt_5 : decode cX5_byteAt 5 = .ok (.if_icmp .ge 12, 3) := by decide +kernel
theorem dX5_byteAt_8 : decode cX5_byteAt 8 = .ok (.aload_n 0, 1) := by decide +kernel
theorem dX5_byteAt_9 : decode cX5_byteAt 9 = .ok (.getfield 43, 3) := by decide +kernel
theorem dX5_byteAt_12 : decode cX5_byteAt 12 = .ok (.iload_n 1, 1) := by decide +kernel
theorem dX5_byteAt_13 : decode cX5_byteAt 13 = .ok (.iaload, 1) := by decide +kernel
theorem dX5_byteAt_14 : decode cX5_byteAt 14 = .ok (.goto 4, 3) := by decide +kernel
theorem dX5_byteAt_17 : decode cX5_byteAt 17 = .ok (.iconst (-1), 1) := by decide +kernel
theorem dX5_byteAt_18 : decode cX5_byteAt 18 = .ok (.ireturn, 1) := by decide +kernel
theorem dX5_next_0 : decode cX5_next 0 = .ok (.aload_n 0, 1) := by decide +kernel
theorem dX5_next_1 : decode cX5_next 1 = .ok (.aload_n 0, 1) := by decide +kernel
theorem dX5_next_2 : decode cX5_next 2 = .ok (.getfield 263, 3) := by decide +kernel
theorem dX5_next_5 : decode cX5_next 5 = .ok (.putfield 266, 3) := by decide +kernel
theorem dX5_next_8 : decode cX5_next 8 = .ok (.aload_n 0, 1) := by decide +kernel
theorem dX5_next_9 : decode cX5_next 9 = .ok (.aload_n 0, 1) := by decide +kernel
theorem dX5_next_10 : decode cX5_next 10 = .ok (.getfield 266, 3) := by decide +kernel
theorem dX5_next_13 : decode cX5_next 13 = .ok (.invokevirtual 269, 3) := by decide +kernel
theorem dX5_next_16 : decode cX5_next 16 = .ok (.bipush 32, 2) := by decide +kernel
theorem dX5_next_18 : decode cX5_next 18 = .ok (.if_icmp .ne 16, 3) := by decide +kernel
theorem dX5_next_21 : decode cX5_next 21 = .ok (.aload_n 0, 1) := by decide +kernel
theorem dX5_next_22 : decode cX5_next 22 = .ok (.dup, 1) := by decide +kernel
theorem dX5_next_23 : decode cX5_next 23 = .ok (.getfield 266, 3) := by decide +kernel
theorem dX5_next_26 : decode cX5_next 26 = .ok (.iconst 1, 1) := by decide +kernel
theorem dX5_next_27 : decode cX5_next 27 = .ok (.iadd, 1) := by decide +kernel
theorem dX5_next_28 : decode cX5_next 28 = .ok (.putfield 266, 3) := by decide +kernel
theorem dX5_next_31 : decode cX5_next 31 = .ok (.goto (-23), 3) := by decide +kernel
theorem dX5_next_34 : decode cX5_next 34 = .ok (.aload_n 0, 1) := by decide +kernel
theorem dX5_next_35 : decode cX5_next 35 = .ok (.aload_n 0, 1) := by decide +kernel
theorem dX5_next_36 : decode cX5_next 36 = .ok (.getfield 266, 3) := by decide +kernel
theorem dX5_next_39 : decode cX5_next 39 = .ok (.invokevirtual 269, 3) := by decide +kernel
theorem dX5_next_42 : decode cX5_next 42 = .ok (.istore_n 1, 1) := by decide +kernel
theorem dX5_next_43 : decode cX5_next 43 = .ok (.aload_n 0, 1) := by decide +kernel
theorem dX5_next_44 : decode cX5_next 44 = .ok (.aload_n 0, 1) := by decide +kernel
theorem dX5_next_45 : decode cX5_next 45 = .ok (.getfield 266, 3) := by decide +kernel
theorem dX5_next_48 : decode cX5_next 48 = .ok (.putfield 263, 3) := by decide +kernel
theorem dX5_next_51 : decode cX5_next 51 = .ok (.aload_n 0, 1) := by decide +kernel
theorem dX5_next_52 : decode cX5_next 52 = .ok (.iconst 0, 1) := by decide +kernel
theorem dX5_next_53 : decode cX5_next 53 = .ok (.putfield 272, 3) := by decide +kernel
theorem dX5_next_56 : decode cX5_next 56 = .ok (.iload_n 1, 1) := by decide +kernel
theorem dX5_next_57 : decode cX5_next 57 = .ok (.ifCond .ge 11, 3) := by decide +kernel
theorem dX5_next_60 : decode cX5_next 60 = .ok (.aload_n 0, 1) := by decide +kernel
theorem dX5_next_61 : decode cX5_next 61 = .ok (.iconst 0, 1) := by decide +kernel
theorem dX5_next_62 : decode cX5_next 62 = .ok (.putfield 275, 3) := by decide +kernel
theorem dX5_next_65 : decode cX5_next 65 = .ok (.goto 141, 3) := by decide +kernel
theorem dX5_next_68 : decode cX5_next 68 = .ok (.iload_n 1, 1) := by decide +kernel
theorem dX5_next_69 : decode cX5_next 69 = .ok (.bipush 97, 2) := by decide +kernel
theorem dX5_next_71 : decode cX5_next 71 = .ok (.bipush 122, 2) := by decide +kernel
theorem dX5_next_73 : decode cX5_next 73 = .ok (.invokestatic 97, 3) := by decide +kernel
theorem dX5_next_76 : decode cX5_next 76 = .ok (.ifCond .eq 39, 3) := by decide +kernel
theorem dX5_next_79 : decode cX5_next 79 = .ok (.aload_n 0, 1) := by decide +kernel
theorem dX5_next_80 : decode cX5_next 80 = .ok (.iconst 1, 1) := by decide +kernel
theorem dX5_next_81 : decode cX5_next 81 = .ok (.putfield 275, 3) := by decide +kernel
theorem dX5_next_84 : decode cX5_next 84 = .ok (.aload_n 0, 1) := by decide +kernel
theorem dX5_next_85 : decode cX5_next 85 = .ok (.aload_n 0, 1) := by decide +kernel
theorem dX5_next_86 : decode cX5_next 86 = .ok (.getfield 263, 3) := by decide +kernel
theorem dX5_next_89 : decode cX5_next 89 = .ok (.invokevirtual 269, 3) := by decide +kernel
theorem dX5_next_92 : decode cX5_next 92 = .ok (.bipush 97, 2) := by decide +kernel
theorem dX5_next_94 : decode cX5_next 94 = .ok (.bipush 122, 2) := by decide +kernel
theorem dX5_next_96 : decode cX5_next 96 = .ok (.invokestatic 97, 3) := by decide +kernel
theorem dX5_next_99 : decode cX5_next 99 = .ok (.ifCond .eq 107, 3) := by decide +kernel
theorem dX5_next_102 : decode cX5_next 102 = .ok (.aload_n 0, 1) := by decide +kernel
theorem dX5_next_103 : decode cX5_next 103 = .ok (.dup, 1) := by decide +kernel
theorem dX5_next_104 : decode cX5_next 104 = .ok (.getfield 263, 3) := by decide +kernel
theorem dX5_next_107 : decode cX5_next 107 = .ok (.iconst 1, 1) := by decide +kernel
theorem dX5_next_108 : decode cX5_next 108 = .ok (.iadd, 1) := by decide +kernel
theorem dX5_next_109 : decode cX5_next 109 = .ok (.putfield 263, 3) := by decide +kernel
theorem dX5_next_112 : decode cX5_next 112 = .ok (.goto (-28), 3) := by decide +kernel
theorem dX5_next_115 : decode cX5_next 115 = .ok (.iload_n 1, 1) := by decide +kernel
theorem dX5_next_116 : decode cX5_next 116 = .ok (.bipush 48, 2) := by decide +kernel
theorem dX5_next_118 : decode cX5_next 118 = .ok (.bipush 57, 2) := by decide +kernel
theorem dX5_next_120 : decode cX5_next 120 = .ok (.invokestatic 97, 3) := by decide +kernel
theorem dX5_next_123 : decode cX5_next 123 = .ok (.ifCond .eq 68, 3) := by decide +kernel
theorem dX5_next_126 : decode cX5_next 126 = .ok (.aload_n 0, 1) := by decide +kernel
theorem dX5_next_127 : decode cX5_next 127 = .ok (.iconst 2, 1) := by decide +kernel
theorem dX5_next_128 : decode cX5_next 128 = .ok (.putfield 275, 3) := by decide +kernel
theorem dX5_next_131 : decode cX5_next 131 = .ok (.aload_n 0, 1) := by decide +kernel
theorem dX5_next_132 : decode cX5_next 132 = .ok (.aload_n 0, 1) := by decide +kernel
theorem dX5_next_133 : decode cX5_next 133 = .ok (.getfield 263, 3) := by decide +kernel
theorem dX5_next_136 : decode cX5_next 136 = .ok (.invokevirtual 269, 3) := by decide +kernel
theorem dX5_next_139 : decode cX5_next 139 = .ok (.bipush 48, 2) := by decide +kernel
theorem dX5_next_141 : decode cX5_next 141 = .ok (.bipush 57, 2) := by decide +kernel
theorem dX5_next_143 : decode cX5_next 143 = .ok (.invokestatic 97, 3) := by decide +kernel
theorem dX5_next_146 : decode cX5_next 146 = .ok (.ifCond .eq 60, 3) := by decide +kernel
theorem dX5_next_149 : decode cX5_next 149 = .ok (.aload_n 0, 1) := by decide +kernel
theorem dX5_next_150 : decode cX5_next 150 = .ok (.sipush 10000, 3) := by decide +kernel
theorem dX5_next_153 : decode cX5_next 153 = .ok (.bipush 10, 2) := by decide +kernel
theorem dX5_next_155 : decode cX5_next 155 = .ok (.aload_n 0, 1) := by decide +kernel
theorem dX5_next_156 : decode cX5_next 156 = .ok (.getfield 272, 3) := by decide +kernel
theorem dX5_next_159 : decode cX5_next 159 = .ok (.imul, 1) := by decide +kernel
theorem dX5_next_160 : decode cX5_next 160 = .ok (.aload_n 0, 1) := by decide +kernel
theorem dX5_next_161 : decode cX5_next 161 = .ok (.aload_n 0, 1) := by decide +kernel
theorem dX5_next_162 : decode cX5_next 162 = .ok (.getfield 263, 3) := by decide +kernel
theorem dX5_next_165 : decode cX5_next 165 = .ok (.invokevirtual 269, 3) := by decide +kernel
theorem dX5_next_168 : decode cX5_next 168 = .ok (.iadd, 1) := by decide +kernel
theorem dX5_next_169 : decode cX5_next 169 = .ok (.bipush 48, 2) := by decide +kernel
theorem dX5_next_171 : decode cX5_next 171 = .ok (.isub, 1) := by decide +kernel
theorem dX5_next_172 : decode cX5_next 172 = .ok (.invokestatic 123, 3) := by decide +kernel
theorem dX5_next_175 : decode cX5_next 175 = .ok (.putfield 272, 3) := by decide +kernel
theorem dX5_next_178 : decode cX5_next 178 = .ok (.aload_n 0, 1) := by decide +kernel
theorem dX5_next_179 : decode cX5_next 179 = .ok (.dup, 1) := by decide +kernel
theorem dX5_next_180 : decode cX5_next 180 = .ok (.getfield 263, 3) := by decide +kernel
theorem dX5_next_183 : decode cX5_next 183 = .ok (.iconst 1, 1) := by decide +kernel
theorem dX5_next_184 : decode cX5_next 184 = .ok (.iadd, 1) := by decide +kernel
theorem dX5_next_185 : decode cX5_next 185 = .ok (.putfield 263, 3) := by decide +kernel
theorem dX5_next_188 : decode cX5_next 188 = .ok (.goto (-57), 3) := by decide +kernel
theorem dX5_next_191 : decode cX5_next 191 = .ok (.aload_n 0, 1) := by decide +kernel
theorem dX5_next_192 : decode cX5_next 192 = .ok (.iconst 3, 1) := by decide +kernel
theorem dX5_next_193 : decode cX5_next 193 = .ok (.putfield 275, 3) := by decide +kernel
theorem dX5_next_196 : decode cX5_next 196 = .ok (.aload_n 0, 1) := by decide +kernel
theorem dX5_next_197 : decode cX5_next 197 = .ok (.dup, 1) := by decide +kernel
theorem dX5_next_198 : decode cX5_next 198 = .ok (.getfield 263, 3) := by decide +kernel
theorem dX5_next_201 : decode cX5_next 201 = .ok (.iconst 1, 1) := by decide +kernel
theorem dX5_next_202 : decode cX5_next 202 = .ok (.iadd, 1) := by decide +kernel
theorem dX5_next_203 : decode cX5_next 203 = .ok (.putfield 263, 3) := by decide +kernel
theorem dX5_next_206 : decode cX5_next 206 = .ok (.return_, 1) := by decide +kernel
theorem dX5_isWord_0 : decode cX5_isWord 0 = .ok (.aload_n 0, 1) := by decide +kernel
theorem dX5_isWord_1 : decode cX5_isWord 1 = .ok (.getfield 275, 3) := by decide +kernel
theorem dX5_isWord_4 : decode cX5_isWord 4 = .ok (.iconst 1, 1) := by decide +kernel
theorem dX5_isWord_5 : decode cX5_isWord 5 = .ok (.if_icmp .ne 23, 3) := by decide +kernel
theorem dX5_isWord_8 : decode cX5_isWord 8 = .ok (.aload_n 0, 1) := by decide +kernel
theorem dX5_isWord_9 : decode cX5_isWord 9 = .ok (.getfield 263, 3) := by decide +kernel
theorem dX5_isWord_12 : decode cX5_isWord 12 = .ok (.aload_n 0, 1) := by decide +kernel
theorem dX5_isWord_13 : decode cX5_isWord 13 = .ok (.getfield 266, 3) := by decide +kernel
theorem dX5_isWord_16 : decode cX5_isWord 16 = .ok (.isub, 1) := by decide +kernel
theorem dX5_isWord_17 : decode cX5_isWord 17 = .ok (.aload_n 1, 1) := by decide +kernel
theorem dX5_isWord_18 : decode cX5_isWord 18 = .ok (.invokevirtual 278, 3) := by decide +kernel
theorem dX5_isWord_21 : decode cX5_isWord 21 = .ok (.if_icmp .ne 7, 3) := by decide +kernel
theorem dX5_isWord_24 : decode cX5_isWord 24 = .ok (.iconst 1, 1) := by decide +kernel
theorem dX5_isWord_25 : decode cX5_isWord 25 = .ok (.goto 4, 3) := by decide +kernel
theorem dX5_isWord_28 : decode cX5_isWord 28 = .ok (.iconst 0, 1) := by decide +kernel
theorem dX5_isWord_29 : decode cX5_isWord 29 = .ok (.istore_n 2, 1) := by decide +kernel
theorem dX5_isWord_30 : decode cX5_isWord 30 = .ok (.iconst 0, 1) := by decide +kernel
theorem dX5_isWord_31 : decode cX5_isWord 31 = .ok (.istore_n 3, 1) := by decide +kernel
theorem dX5_isWord_32 : decode cX5_isWord 32 = .ok (.iload_n 3, 1) := by decide +kernel
theorem dX5_isWord_33 : decode cX5_isWord 33 = .ok (.aload_n 1, 1) := by decide +kernel
theorem dX5_isWord_34 : decode cX5_isWord 34 = .ok (.invokevirtual 278, 3) := by decide +kernel
theorem dX5_isWord_37 : decode cX5_isWord 37 = .ok (.if_icmp .ge 38, 3) := by decide +kernel
theorem dX5_isWord_40 : decode cX5_isWord 40 = .ok (.iload_n 2, 1) := by decide +kernel
theorem dX5_isWord_41 : decode cX5_isWord 41 = .ok (.ifCond .eq 34, 3) := by decide +kernel
theorem dX5_isWord_44 : decode cX5_isWord 44 = .ok (.aload_n 0, 1) := by decide +kernel
theorem dX5_isWord_45 : decode cX5_isWord 45 = .ok (.getfield 43, 3) := by decide +kernel
theorem dX5_isWord_48 : decode cX5_isWord 48 = .ok (.aload_n 0, 1) := by decide +kernel
theorem dX5_isWord_49 : decode cX5_isWord 49 = .ok (.getfield 266, 3) := by decide +kernel
theorem dX5_isWord_52 : decode cX5_isWord 52 = .ok (.iload_n 3, 1) := by decide +kernel
theorem dX5_isWord_53 : decode cX5_isWord 53 = .ok (.iadd, 1) := by decide +kernel
theorem dX5_isWord_54 : decode cX5_isWord 54 = .ok (.iaload, 1) := by decide +kernel
theorem dX5_isWord_55 : decode cX5_isWord 55 = .ok (.aload_n 1, 1) := by decide +kernel
theorem dX5_isWord_56 : decode cX5_isWord 56 = .ok (.iload_n 3, 1) := by decide +kernel
theorem dX5_isWord_57 : decode cX5_isWord 57 = .ok (.invokevirtual 281, 3) := by decide +kernel
theorem dX5_isWord_60 : decode cX5_isWord 60 = .ok (.if_icmp .ne 7, 3) := by decide +kernel
theorem dX5_isWord_63 : decode cX5_isWord 63 = .ok (.iconst 1, 1) := by decide +kernel
theorem dX5_isWord_64 : decode cX5_isWord 64 = .ok (.goto 4, 3) := by decide +kernel
theorem dX5_isWord_67 : decode cX5_isWord 67 = .ok (.iconst 0, 1) := by decide +kernel
theorem dX5_isWord_68 : decode cX5_isWord 68 = .ok (.istore_n 2, 1) := by decide +kernel
theorem dX5_isWord_69 : decode cX5_isWord 69 = .ok (.iinc 3 1, 3) := by decide +kernel
theorem dX5_isWord_72 : decode cX5_isWord 72 = .ok (.goto (-40), 3) := by decide +kernel
theorem dX5_isWord_75 : decode cX5_isWord 75 = .ok (.iload_n 2, 1) := by decide +kernel
theorem dX5_isWord_76 : decode cX5_isWord 76 = .ok (.ireturn, 1) := by decide +kernel
theorem dX5_must_0 : decode cX5_must 0 = .ok (.aload_n 0, 1) := by decide +kernel
theorem dX5_must_1 : decode cX5_must 1 = .ok (.aload_n 0, 1) := by decide +kernel
theorem dX5_must_2 : decode cX5_must 2 = .ok (.getfield 285, 3) := by decide +kernel
theorem dX5_must_5 : decode cX5_must 5 = .ok (.ifCond .ne 7, 3) := by decide +kernel
theorem dX5_must_8 : decode cX5_must 8 = .ok (.iload_n 1, 1) := by decide +kernel
theorem dX5_must_9 : decode cX5_must 9 = .ok (.ifCond .ne 7, 3) := by decide +kernel
theorem dX5_must_12 : decode cX5_must 12 = .ok (.iconst 1, 1) := by decide +kernel
theorem dX5_must_13 : decode cX5_must 13 = .ok (.goto 4, 3) := by decide +kernel
theorem dX5_must_16 : decode cX5_must 16 = .ok (.iconst 0, 1) := by decide +kernel
theorem dX5_must_17 : decode cX5_must 17 = .ok (.putfield 285, 3) := by decide +kernel
theorem dX5_must_20 : decode cX5_must 20 = .ok (.aload_n 0, 1) := by decide +kernel
theorem dX5_must_21 : decode cX5_must 21 = .ok (.getfield 285, 3) := by decide +kernel
theorem dX5_must_24 : decode cX5_must 24 = .ok (.ifCond .ne 7, 3) := by decide +kernel
theorem dX5_must_27 : decode cX5_must 27 = .ok (.aload_n 0, 1) := by decide +kernel
theorem dX5_must_28 : decode cX5_must 28 = .ok (.invokevirtual 289, 3) := by decide +kernel
theorem dX5_must_31 : decode cX5_must 31 = .ok (.return_, 1) := by decide +kernel
theorem dX5_number_0 : decode cX5_number 0 = .ok (.aload_n 0, 1) := by decide +kernel
theorem dX5_number_1 : decode cX5_number 1 = .ok (.getfield 272, 3) := by decide +kernel
theorem dX5_number_4 : decode cX5_number 4 = .ok (.istore_n 3, 1) := by decide +kernel
theorem dX5_number_5 : decode cX5_number 5 = .ok (.aload_n 0, 1) := by decide +kernel
theorem dX5_number_6 : decode cX5_number 6 = .ok (.aload_n 0, 1) := by decide +kernel
theorem dX5_number_7 : decode cX5_number 7 = .ok (.getfield 275, 3) := by decide +kernel
theorem dX5_number_10 : decode cX5_number 10 = .ok (.iconst 2, 1) := by decide +kernel
theorem dX5_number_11 : decode cX5_number 11 = .ok (.if_icmp .ne 16, 3) := by decide +kernel
theorem dX5_number_14 : decode cX5_number 14 = .ok (.iload_n 3, 1) := by decide +kernel
theorem dX5_number_15 : decode cX5_number 15 = .ok (.iload_n 1, 1) := by decide +kernel
theorem dX5_number_16 : decode cX5_number 16 = .ok (.iload_n 2, 1) := by decide +kernel
theorem dX5_number_17 : decode cX5_number 17 = .ok (.invokestatic 97, 3) := by decide +kernel
theorem dX5_number_20 : decode cX5_number 20 = .ok (.ifCond .eq 7, 3) := by decide +kernel
theorem dX5_number_23 : decode cX5_number 23 = .ok (.iconst 1, 1) := by decide +kernel
theorem dX5_number_24 : decode cX5_number 24 = .ok (.goto 4, 3) := by decide +kernel
theorem dX5_number_27 : decode cX5_number 27 = .ok (.iconst 0, 1) := by decide +kernel
theorem dX5_number_28 : decode cX5_number 28 = .ok (.invokevirtual 292, 3) := by decide +kernel
theorem dX5_number_31 : decode cX5_number 31 = .ok (.iload_n 3, 1) := by decide +kernel
theorem dX5_number_32 : decode cX5_number 32 = .ok (.ireturn, 1) := by decide +kernel
theorem dX5_row_0 : decode cX5_row 0 = .ok (.iconst 3, 1) := by decide +kernel
theorem dX5_row_1 : decode cX5_row 1 = .ok (.aload_n 0, 1) := by decide +kernel
theorem dX5_row_2 : decode cX5_row 2 = .ok (.getfield 296, 3) := by decide +kernel
theorem dX5_row_5 : decode cX5_row 5 = .ok (.imul, 1) := by decide +kernel
theorem dX5_row_6 : decode cX5_row 6 = .ok (.istore 4, 2) := by decide +kernel
theorem dX5_row_8 : decode cX5_row 8 = .ok (.aload_n 0, 1) := by decide +kernel
theorem dX5_row_9 : decode cX5_row 9 = .ok (.getfield 77, 3) := by decide +kernel
theorem dX5_row_12 : decode cX5_row 12 = .ok (.iload 4, 2) := by decide +kernel
theorem dX5_row_14 : decode cX5_row 14 = .ok (.iload_n 1, 1) := by decide +kernel
theorem dX5_row_15 : decode cX5_row 15 = .ok (.iastore, 1) := by decide +kernel
theorem dX5_row_16 : decode cX5_row 16 = .ok (.aload_n 0, 1) := by decide +kernel
theorem dX5_row_17 : decode cX5_row 17 = .ok (.getfield 77, 3) := by decide +kernel
theorem dX5_row_20 : decode cX5_row 20 = .ok (.iload 4, 2) := by decide +kernel
theorem dX5_row_22 : decode cX5_row 22 = .ok (.iconst 1, 1) := by decide +kernel
theorem dX5_row_23 : decode cX5_row 23 = .ok (.iadd, 1) := by decide +kernel
theorem dX5_row_24 : decode cX5_row 24 = .ok (.iload_n 2, 1) := by decide +kernel
theorem dX5_row_25 : decode cX5_row 25 = .ok (.iastore, 1) := by decide +kernel
theorem dX5_row_26 : decode cX5_row 26 = .ok (.aload_n 0, 1) := by decide +kernel
theorem dX5_row_27 : decode cX5_row 27 = .ok (.getfield 77, 3) := by decide +kernel
theorem dX5_row_30 : decode cX5_row 30 = .ok (.iload 4, 2) := by decide +kernel
theorem dX5_row_32 : decode cX5_row 32 = .ok (.iconst 2, 1) := by decide +kernel
theorem dX5_row_33 : decode cX5_row 33 = .ok (.iadd, 1) := by decide +kernel
theorem dX5_row_34 : decode cX5_row 34 = .ok (.iload_n 3, 1) := by decide +kernel
theorem dX5_row_35 : decode cX5_row 35 = .ok (.iastore, 1) := by decide +kernel
theorem dX5_row_36 : decode cX5_row 36 = .ok (.aload_n 0, 1) := by decide +kernel
theorem dX5_row_37 : decode cX5_row 37 = .ok (.dup, 1) := by decide +kernel
theorem dX5_row_38 : decode cX5_row 38 = .ok (.getfield 296, 3) := by decide +kernel
theorem dX5_row_41 : decode cX5_row 41 = .ok (.iconst 1, 1) := by decide +kernel
theorem dX5_row_42 : decode cX5_row 42 = .ok (.iadd, 1) := by decide +kernel
theorem dX5_row_43 : decode cX5_row 43 = .ok (.putfield 296, 3) := by decide +kernel
theorem dX5_row_46 : decode cX5_row 46 = .ok (.return_, 1) := by decide +kernel
theorem dX5_kindTold_0 : decode cX5_kindTold 0 = .ok (.iconst (-1), 1) := by decide +kernel
theorem dX5_kindTold_1 : decode cX5_kindTold 1 = .ok (.istore_n 1, 1) := by decide +kernel
theorem dX5_kindTold_2 : decode cX5_kindTold 2 = .ok (.iconst 0, 1) := by decide +kernel
theorem dX5_kindTold_3 : decode cX5_kindTold 3 = .ok (.istore_n 2, 1) := by decide +kernel
theorem dX5_kindTold_4 : decode cX5_kindTold 4 = .ok (.iload_n 2, 1) := by decide +kernel
theorem dX5_kindTold_5 : decode cX5_kindTold 5 = .ok (.aload_n 0, 1) := by decide +kernel
theorem dX5_kindTold_6 : decode cX5_kindTold 6 = .ok (.getfield 62, 3) := by decide +kernel
theorem dX5_kindTold_9 : decode cX5_kindTold 9 = .ok (.arraylength, 1) := by decide +kernel
theorem dX5_kindTold_10 : decode cX5_kindTold 10 = .ok (.if_icmp .ge 28, 3) := by decide +kernel
theorem dX5_kindTold_13 : decode cX5_kindTold 13 = .ok (.aload_n 0, 1) := by decide +kernel
theorem dX5_kindTold_14 : decode cX5_kindTold 14 = .ok (.aload_n 0, 1) := by decide +kernel
theorem dX5_kindTold_15 : decode cX5_kindTold 15 = .ok (.getfield 62, 3) := by decide +kernel
theorem dX5_kindTold_18 : decode cX5_kindTold 18 = .ok (.iload_n 2, 1) := by decide +kernel
theorem dX5_kindTold_19 : decode cX5_kindTold 19 = .ok (.aaload, 1) := by decide +kernel
theorem dX5_kindTold_20 : decode cX5_kindTold 20 = .ok (.invokevirtual 299, 3) := by decide +kernel
theorem dX5_kindTold_23 : decode cX5_kindTold 23 = .ok (.ifCond .eq 7, 3) := by decide +kernel
theorem dX5_kindTold_26 : decode cX5_kindTold 26 = .ok (.iload_n 2, 1) := by decide +kernel
theorem dX5_kindTold_27 : decode cX5_kindTold 27 = .ok (.goto 4, 3) := by decide +kernel
theorem dX5_kindTold_30 : decode cX5_kindTold 30 = .ok (.iload_n 1, 1) := by decide +kernel
theorem dX5_kindTold_31 : decode cX5_kindTold 31 = .ok (.istore_n 1, 1) := by decide +kernel
theorem dX5_kindTold_32 : decode cX5_kindTold 32 = .ok (.iinc 2 1, 3) := by decide +kernel
theorem dX5_kindTold_35 : decode cX5_kindTold 35 = .ok (.goto (-31), 3) := by decide +kernel
theorem dX5_kindTold_38 : decode cX5_kindTold 38 = .ok (.iload_n 1, 1) := by decide +kernel
theorem dX5_kindTold_39 : decode cX5_kindTold 39 = .ok (.ireturn, 1) := by decide +kernel
theorem dX5_isNext_0 : decode cX5_isNext 0 = .ok (.aload_n 0, 1) := by decide +kernel
theorem dX5_isNext_1 : decode cX5_isNext 1 = .ok (.getfield 285, 3) := by decide +kernel
theorem dX5_isNext_4 : decode cX5_isNext 4 = .ok (.ifCond .ne 15, 3) := by decide +kernel
theorem dX5_isNext_7 : decode cX5_isNext 7 = .ok (.aload_n 0, 1) := by decide +kernel
theorem dX5_isNext_8 : decode cX5_isNext 8 = .ok (.aload_n 1, 1) := by decide +kernel
theorem dX5_isNext_9 : decode cX5_isNext 9 = .ok (.invokevirtual 299, 3) := by decide +kernel
theorem dX5_isNext_12 : decode cX5_isNext 12 = .ok (.ifCond .eq 7, 3) := by decide +kernel
theorem dX5_isNext_15 : decode cX5_isNext 15 = .ok (.iconst 1, 1) := by decide +kernel
theorem dX5_isNext_16 : decode cX5_isNext 16 = .ok (.goto 4, 3) := by decide +kernel
theorem dX5_isNext_19 : decode cX5_isNext 19 = .ok (.iconst 0, 1) := by decide +kernel
theorem dX5_isNext_20 : decode cX5_isNext 20 = .ok (.istore_n 2, 1) := by decide +kernel
theorem dX5_isNext_21 : decode cX5_isNext 21 = .ok (.iload_n 2, 1) := by decide +kernel
theorem dX5_isNext_22 : decode cX5_isNext 22 = .ok (.ifCond .eq 8, 3) := by decide +kernel
theorem dX5_isNext_25 : decode cX5_isNext 25 = .ok (.aload_n 0, 1) := by decide +kernel
theorem dX5_isNext_26 : decode cX5_isNext 26 = .ok (.iconst 1, 1) := by decide +kernel
theorem dX5_isNext_27 : decode cX5_isNext 27 = .ok (.invokevirtual 292, 3) := by decide +kernel
theorem dX5_isNext_30 : decode cX5_isNext 30 = .ok (.iload_n 2, 1) := by decide +kernel
theorem dX5_isNext_31 : decode cX5_isNext 31 = .ok (.ireturn, 1) := by decide +kernel
theorem dX5_readItem_0 : decode cX5_readItem 0 = .ok (.aload_n 0, 1) := by decide +kernel
theorem dX5_readItem_1 : decode cX5_readItem 1 = .ok (.invokevirtual 303, 3) := by decide +kernel
theorem dX5_readItem_4 : decode cX5_readItem 4 = .ok (.istore_n 1, 1) := by decide +kernel
theorem dX5_readItem_5 : decode cX5_readItem 5 = .ok (.aload_n 0, 1) := by decide +kernel
theorem dX5_readItem_6 : decode cX5_readItem 6 = .ok (.dup, 1) := by decide +kernel
theorem dX5_readItem_7 : decode cX5_readItem 7 = .ok (.getfield 306, 3) := by decide +kernel
theorem dX5_readItem_10 : decode cX5_readItem 10 = .ok (.iconst 1, 1) := by decide +kernel
theorem dX5_readItem_11 : decode cX5_readItem 11 = .ok (.iadd, 1) := by decide +kernel
theorem dX5_readItem_12 : decode cX5_readItem 12 = .ok (.putfield 306, 3) := by decide +kernel
theorem dX5_readItem_15 : decode cX5_readItem 15 = .ok (.iload_n 1, 1) := by decide +kernel
theorem dX5_readItem_16 : decode cX5_readItem 16 = .ok (.ifCond .lt 175, 3) := by decide +kernel
theorem dX5_readItem_19 : decode cX5_readItem 19 = .ok (.aload_n 0, 1) := by decide +kernel
theorem dX5_readItem_20 : decode cX5_readItem 20 = .ok (.aload_n 0, 1) := by decide +kernel
theorem dX5_readItem_21 : decode cX5_readItem 21 = .ok (.getfield 309, 3) := by decide +kernel
theorem dX5_readItem_24 : decode cX5_readItem 24 = .ok (.bipush 8, 2) := by decide +kernel
theorem dX5_readItem_26 : decode cX5_readItem 26 = .ok (.if_icmp .ge 7, 3) := by decide +kernel
theorem dX5_readItem_29 : decode cX5_readItem 29 = .ok (.iconst 1, 1) := by decide +kernel
theorem dX5_readItem_30 : decode cX5_readItem 30 = .ok (.goto 4, 3) := by decide +kernel
theorem dX5_readItem_33 : decode cX5_readItem 33 = .ok (.iconst 0, 1) := by decide +kernel
theorem dX5_readItem_34 : decode cX5_readItem 34 = .ok (.invokevirtual 292, 3) := by decide +kernel
theorem dX5_readItem_37 : decode cX5_readItem 37 = .ok (.aload_n 0, 1) := by decide +kernel
theorem dX5_readItem_38 : decode cX5_readItem 38 = .ok (.getfield 309, 3) := by decide +kernel
theorem dX5_readItem_41 : decode cX5_readItem 41 = .ok (.istore_n 2, 1) := by decide +kernel
theorem dX5_readItem_42 : decode cX5_readItem 42 = .ok (.aload_n 0, 1) := by decide +kernel
theorem dX5_readItem_43 : decode cX5_readItem 43 = .ok (.dup, 1) := by decide +kernel
theorem dX5_readItem_44 : decode cX5_readItem 44 = .ok (.getfield 309, 3) := by decide +kernel
theorem dX5_readItem_47 : decode cX5_readItem 47 = .ok (.iconst 1, 1) := by decide +kernel
theorem dX5_readItem_48 : decode cX5_readItem 48 = .ok (.iadd, 1) := by decide +kernel
theorem dX5_readItem_49 : decode cX5_readItem 49 = .ok (.putfield 309, 3) := by decide +kernel
theorem dX5_readItem_52 : decode cX5_readItem 52 = .ok (.aload_n 0, 1) := by decide +kernel
theorem dX5_readItem_53 : decode cX5_readItem 53 = .ok (.iload_n 1, 1) := by decide +kernel
theorem dX5_readItem_54 : decode cX5_readItem 54 = .ok (.iconst 0, 1) := by decide +kernel
theorem dX5_readItem_55 : decode cX5_readItem 55 = .ok (.iconst 0, 1) := by decide +kernel
theorem dX5_readItem_56 : decode cX5_readItem 56 = .ok (.invokevirtual 312, 3) := by decide +kernel
theorem dX5_readItem_59 : decode cX5_readItem 59 = .ok (.iconst 0, 1) := by decide +kernel
theorem dX5_readItem_60 : decode cX5_readItem 60 = .ok (.istore_n 3, 1) := by decide +kernel
theorem dX5_readItem_61 : decode cX5_readItem 61 = .ok (.iload_n 3, 1) := by decide +kernel
theorem dX5_readItem_62 : decode cX5_readItem 62 = .ok (.aload_n 0, 1) := by decide +kernel
theorem dX5_readItem_63 : decode cX5_readItem 63 = .ok (.getfield 74, 3) := by decide +kernel
theorem dX5_readItem_66 : decode cX5_readItem 66 = .ok (.arraylength, 1) := by decide +kernel
theorem dX5_readItem_67 : decode cX5_readItem 67 = .ok (.if_icmp .ge 103, 3) := by decide +kernel
theorem dX5_readItem_70 : decode cX5_readItem 70 = .ok (.iconst 1, 1) := by decide +kernel
theorem dX5_readItem_71 : decode cX5_readItem 71 = .ok (.iload_n 3, 1) := by decide +kernel
theorem dX5_readItem_72 : decode cX5_readItem 72 = .ok (.iadd, 1) := by decide +kernel
theorem dX5_readItem_73 : decode cX5_readItem 73 = .ok (.istore 4, 2) := by decide +kernel
theorem dX5_readItem_75 : decode cX5_readItem 75 = .ok (.aload_n 0, 1) := by decide +kernel
theorem dX5_readItem_76 : decode cX5_readItem 76 = .ok (.aload_n 0, 1) := by decide +kernel
theorem dX5_readItem_77 : decode cX5_readItem 77 = .ok (.getfield 74, 3) := by decide +kernel
theorem dX5_readItem_80 : decode cX5_readItem 80 = .ok (.iload_n 3, 1) := by decide +kernel
theorem dX5_readItem_81 : decode cX5_readItem 81 = .ok (.aaload, 1) := by decide +kernel
theorem dX5_readItem_82 : decode cX5_readItem 82 = .ok (.invokevirtual 315, 3) := by decide +kernel
theorem dX5_readItem_85 : decode cX5_readItem 85 = .ok (.ifCond .eq 79, 3) := by decide +kernel
theorem dX5_readItem_88 : decode cX5_readItem 88 = .ok (.aload_n 0, 1) := by decide +kernel
theorem dX5_readItem_89 : decode cX5_readItem 89 = .ok (.getfield 272, 3) := by decide +kernel
theorem dX5_readItem_92 : decode cX5_readItem 92 = .ok (.istore 5, 2) := by decide +kernel
theorem dX5_readItem_94 : decode cX5_readItem 94 = .ok (.aload_n 0, 1) := by decide +kernel
theorem dX5_readItem_95 : decode cX5_readItem 95 = .ok (.aload_n 0, 1) := by decide +kernel
theorem dX5_readItem_96 : decode cX5_readItem 96 = .ok (.getfield 285, 3) := by decide +kernel
theorem dX5_readItem_99 : decode cX5_readItem 99 = .ok (.ifCond .ne 49, 3) := by decide +kernel
theorem dX5_readItem_102 : decode cX5_readItem 102 = .ok (.aload_n 0, 1) := by decide +kernel
theorem dX5_readItem_103 : decode cX5_readItem 103 = .ok (.getfield 275, 3) := by decide +kernel
theorem dX5_readItem_106 : decode cX5_readItem 106 = .ok (.iconst 2, 1) := by decide +kernel
theorem dX5_readItem_107 : decode cX5_readItem 107 = .ok (.if_icmp .ne 41, 3) := by decide +kernel
theorem dX5_readItem_110 : decode cX5_readItem 110 = .ok (.iload 5, 2) := by decide +kernel
theorem dX5_readItem_112 : decode cX5_readItem 112 = .ok (.aload_n 0, 1) := by decide +kernel
theorem dX5_readItem_113 : decode cX5_readItem 113 = .ok (.getfield 22, 3) := by decide +kernel
theorem dX5_readItem_116 : decode cX5_readItem 116 = .ok (.iload 4, 2) := by decide +kernel
theorem dX5_readItem_118 : decode cX5_readItem 118 = .ok (.iaload, 1) := by decide +kernel
theorem dX5_readItem_119 : decode cX5_readItem 119 = .ok (.aload_n 0, 1) := by decide +kernel
theorem dX5_readItem_120 : decode cX5_readItem 120 = .ok (.getfield 25, 3) := by decide +kernel
theorem dX5_readItem_123 : decode cX5_readItem 123 = .ok (.iload 4, 2) := by decide +kernel
theorem dX5_readItem_125 : decode cX5_readItem 125 = .ok (.iaload, 1) := by decide +kernel
theorem dX5_readItem_126 : decode cX5_readItem 126 = .ok (.invokestatic 97, 3) := by decide +kernel
theorem dX5_readItem_129 : decode cX5_readItem 129 = .ok (.ifCond .eq 19, 3) := by decide +kernel
theorem dX5_readItem_132 : decode cX5_readItem 132 = .ok (.iload 4, 2) := by decide +kernel
theorem dX5_readItem_134 : decode cX5_readItem 134 = .ok (.iconst 4, 1) := by decide +kernel
theorem dX5_readItem_135 : decode cX5_readItem 135 = .ok (.if_icmp .ne 9, 3) := by decide +kernel
theorem dX5_readItem_138 : decode cX5_readItem 138 = .ok (.iload 5, 2) := by decide +kernel
theorem dX5_readItem_140 : decode cX5_readItem 140 = .ok (.iload_n 2, 1) := by decide +kernel
theorem dX5_readItem_141 : decode cX5_readItem 141 = .ok (.if_icmp .eq 7, 3) := by decide +kernel
theorem dX5_readItem_144 : decode cX5_readItem 144 = .ok (.iconst 1, 1) := by decide +kernel
theorem dX5_readItem_145 : decode cX5_readItem 145 = .ok (.goto 4, 3) := by decide +kernel
theorem dX5_readItem_148 : decode cX5_readItem 148 = .ok (.iconst 0, 1) := by decide +kernel
theorem dX5_readItem_149 : decode cX5_readItem 149 = .ok (.invokevirtual 292, 3) := by decide +kernel
theorem dX5_readItem_152 : decode cX5_readItem 152 = .ok (.aload_n 0, 1) := by decide +kernel
theorem dX5_readItem_153 : decode cX5_readItem 153 = .ok (.bipush 10, 2) := by decide +kernel
theorem dX5_readItem_155 : decode cX5_readItem 155 = .ok (.iload 4, 2) := by decide +kernel
theorem dX5_readItem_157 : decode cX5_readItem 157 = .ok (.iadd, 1) := by decide +kernel
theorem dX5_readItem_158 : decode cX5_readItem 158 = .ok (.iload_n 2, 1) := by decide +kernel
theorem dX5_readItem_159 : decode cX5_readItem 159 = .ok (.iload 5, 2) := by decide +kernel
theorem dX5_readItem_161 : decode cX5_readItem 161 = .ok (.invokevirtual 312, 3) := by decide +kernel
theorem dX5_readItem_164 : decode cX5_readItem 164 = .ok (.iinc 3 1, 3) := by decide +kernel
theorem dX5_readItem_167 : decode cX5_readItem 167 = .ok (.goto (-106), 3) := by decide +kernel
theorem dX5_readItem_170 : decode cX5_readItem 170 = .ok (.aload_n 0, 1) := by decide +kernel
theorem dX5_readItem_171 : decode cX5_readItem 171 = .ok (.ldc_w 318, 3) := by decide +kernel
theorem dX5_readItem_174 : decode cX5_readItem 174 = .ok (.invokevirtual 315, 3) := by decide +kernel
theorem dX5_readItem_177 : decode cX5_readItem 177 = .ok (.ifCond .eq 11, 3) := by decide +kernel
theorem dX5_readItem_180 : decode cX5_readItem 180 = .ok (.aload_n 0, 1) := by decide +kernel
theorem dX5_readItem_181 : decode cX5_readItem 181 = .ok (.bipush 15, 2) := by decide +kernel
theorem dX5_readItem_183 : decode cX5_readItem 183 = .ok (.iload_n 2, 1) := by decide +kernel
theorem dX5_readItem_184 : decode cX5_readItem 184 = .ok (.iconst 1, 1) := by decide +kernel
theorem dX5_readItem_185 : decode cX5_readItem 185 = .ok (.invokevirtual 312, 3) := by decide +kernel
theorem dX5_readItem_188 : decode cX5_readItem 188 = .ok (.goto 72, 3) := by decide +kernel
theorem dX5_readItem_191 : decode cX5_readItem 191 = .ok (.aload_n 0, 1) := by decide +kernel
theorem dX5_readItem_192 : decode cX5_readItem 192 = .ok (.ldc_w 320, 3) := by decide +kernel
theorem dX5_readItem_195 : decode cX5_readItem 195 = .ok (.invokevirtual 315, 3) := by decide +kernel
theorem dX5_readItem_198 : decode cX5_readItem 198 = .ok (.ifCond .eq 37, 3) := by decide +kernel
theorem dX5_readItem_201 : decode cX5_readItem 201 = .ok (.aload_n 0, 1) := by decide +kernel
theorem dX5_readItem_202 : decode cX5_readItem 202 = .ok (.iconst 0, 1) := by decide +kernel
theorem dX5_readItem_203 : decode cX5_readItem 203 = .ok (.aload_n 0, 1) := by decide +kernel
theorem dX5_readItem_204 : decode cX5_readItem 204 = .ok (.getfield 309, 3) := by decide +kernel
theorem dX5_readItem_207 : decode cX5_readItem 207 = .ok (.iconst 1, 1) := by decide +kernel
theorem dX5_readItem_208 : decode cX5_readItem 208 = .ok (.isub, 1) := by decide +kernel
theorem dX5_readItem_209 : decode cX5_readItem 209 = .ok (.invokevirtual 322, 3) := by decide +kernel
theorem dX5_readItem_212 : decode cX5_readItem 212 = .ok (.istore_n 2, 1) := by decide +kernel
theorem dX5_readItem_213 : decode cX5_readItem 213 = .ok (.aload_n 0, 1) := by decide +kernel
theorem dX5_readItem_214 : decode cX5_readItem 214 = .ok (.bipush 16, 2) := by decide +kernel
theorem dX5_readItem_216 : decode cX5_readItem 216 = .ok (.iload_n 2, 1) := by decide +kernel
theorem dX5_readItem_217 : decode cX5_readItem 217 = .ok (.aload_n 0, 1) := by decide +kernel
theorem dX5_readItem_218 : decode cX5_readItem 218 = .ok (.iconst 0, 1) := by decide +kernel
theorem dX5_readItem_219 : decode cX5_readItem 219 = .ok (.aload_n 0, 1) := by decide +kernel
theorem dX5_readItem_220 : decode cX5_readItem 220 = .ok (.getfield 25, 3) := by decide +kernel
theorem dX5_readItem_223 : decode cX5_readItem 223 = .ok (.bipush 6, 2) := by decide +kernel
theorem dX5_readItem_225 : decode cX5_readItem 225 = .ok (.iaload, 1) := by decide +kernel
theorem dX5_readItem_226 : decode cX5_readItem 226 = .ok (.invokevirtual 322, 3) := by decide +kernel
theorem dX5_readItem_229 : decode cX5_readItem 229 = .ok (.invokevirtual 312, 3) := by decide +kernel
theorem dX5_readItem_232 : decode cX5_readItem 232 = .ok (.goto 28, 3) := by decide +kernel
theorem dX5_readItem_235 : decode cX5_readItem 235 = .ok (.aload_n 0, 1) := by decide +kernel
theorem dX5_readItem_236 : decode cX5_readItem 236 = .ok (.aload_n 0, 1) := by decide +kernel
theorem dX5_readItem_237 : decode cX5_readItem 237 = .ok (.ldc_w 325, 3) := by decide +kernel
theorem dX5_readItem_240 : decode cX5_readItem 240 = .ok (.invokevirtual 299, 3) := by decide +kernel
theorem dX5_readItem_243 : decode cX5_readItem 243 = .ok (.invokevirtual 292, 3) := by decide +kernel
theorem dX5_readItem_246 : decode cX5_readItem 246 = .ok (.aload_n 0, 1) := by decide +kernel
theorem dX5_readItem_247 : decode cX5_readItem 247 = .ok (.bipush 20, 2) := by decide +kernel
theorem dX5_readItem_249 : decode cX5_readItem 249 = .ok (.aload_n 0, 1) := by decide +kernel
theorem dX5_readItem_250 : decode cX5_readItem 250 = .ok (.iconst 0, 1) := by decide +kernel
theorem dX5_readItem_251 : decode cX5_readItem 251 = .ok (.bipush 100, 2) := by decide +kernel
theorem dX5_readItem_253 : decode cX5_readItem 253 = .ok (.invokevirtual 322, 3) := by decide +kernel
theorem dX5_readItem_256 : decode cX5_readItem 256 = .ok (.iconst 0, 1) := by decide +kernel
theorem dX5_readItem_257 : decode cX5_readItem 257 = .ok (.invokevirtual 312, 3) := by decide +kernel
theorem dX5_readItem_260 : decode cX5_readItem 260 = .ok (.return_, 1) := by decide +kernel
theorem dX5_isSo_0 : decode cX5_isSo 0 = .ok (.aload_n 0, 1) := by decide +kernel
theorem dX5_isSo_1 : decode cX5_isSo 1 = .ok (.getfield 77, 3) := by decide +kernel
theorem dX5_isSo_4 : decode cX5_isSo 4 = .ok (.iload_n 1, 1) := by decide +kernel
theorem dX5_isSo_5 : decode cX5_isSo 5 = .ok (.iaload, 1) := by decide +kernel
theorem dX5_isSo_6 : decode cX5_isSo 6 = .ok (.istore_n 2, 1) := by decide +kernel
theorem dX5_isSo_7 : decode cX5_isSo 7 = .ok (.aload_n 0, 1) := by decide +kernel
theorem dX5_isSo_8 : decode cX5_isSo 8 = .ok (.getfield 77, 3) := by decide +kernel
theorem dX5_isSo_11 : decode cX5_isSo 11 = .ok (.iload_n 1, 1) := by decide +kernel
theorem dX5_isSo_12 : decode cX5_isSo 12 = .ok (.iconst 1, 1) := by decide +kernel
theorem dX5_isSo_13 : decode cX5_isSo 13 = .ok (.iadd, 1) := by decide +kernel
theorem dX5_isSo_14 : decode cX5_isSo 14 = .ok (.iaload, 1) := by decide +kernel
theorem dX5_isSo_15 : decode cX5_isSo 15 = .ok (.istore_n 3, 1) := by decide +kernel
theorem dX5_isSo_16 : decode cX5_isSo 16 = .ok (.iload_n 2, 1) := by decide +kernel
theorem dX5_isSo_17 : decode cX5_isSo 17 = .ok (.bipush 20, 2) := by decide +kernel
theorem dX5_isSo_19 : decode cX5_isSo 19 = .ok (.if_icmp .ne 12, 3) := by decide +kernel
theorem dX5_isSo_22 : decode cX5_isSo 22 = .ok (.aload_n 0, 1) := by decide +kernel
theorem dX5_isSo_23 : decode cX5_isSo 23 = .ok (.iconst 1, 1) := by decide +kernel
theorem dX5_isSo_24 : decode cX5_isSo 24 = .ok (.iload_n 3, 1) := by decide +kernel
theorem dX5_isSo_25 : decode cX5_isSo 25 = .ok (.invokevirtual 134, 3) := by decide +kernel
theorem dX5_isSo_28 : decode cX5_isSo 28 = .ok (.goto 37, 3) := by decide +kernel
theorem dX5_isSo_31 : decode cX5_isSo 31 = .ok (.iload_n 2, 1) := by decide +kernel
theorem dX5_isSo_32 : decode cX5_isSo 32 = .ok (.bipush 10, 2) := by decide +kernel
theorem dX5_isSo_34 : decode cX5_isSo 34 = .ok (.if_icmp .lt 26, 3) := by decide +kernel
theorem dX5_isSo_37 : decode cX5_isSo 37 = .ok (.aload_n 0, 1) := by decide +kernel
theorem dX5_isSo_38 : decode cX5_isSo 38 = .ok (.iload_n 3, 1) := by decide +kernel
theorem dX5_isSo_39 : decode cX5_isSo 39 = .ok (.iload_n 2, 1) := by decide +kernel
theorem dX5_isSo_40 : decode cX5_isSo 40 = .ok (.bipush 10, 2) := by decide +kernel
theorem dX5_isSo_42 : decode cX5_isSo 42 = .ok (.isub, 1) := by decide +kernel
theorem dX5_isSo_43 : decode cX5_isSo 43 = .ok (.invokestatic 101, 3) := by decide +kernel
theorem dX5_isSo_46 : decode cX5_isSo 46 = .ok (.aload_n 0, 1) := by decide +kernel
theorem dX5_isSo_47 : decode cX5_isSo 47 = .ok (.getfield 77, 3) := by decide +kernel
theorem dX5_isSo_50 : decode cX5_isSo 50 = .ok (.iload_n 1, 1) := by decide +kernel
theorem dX5_isSo_51 : decode cX5_isSo 51 = .ok (.iconst 2, 1) := by decide +kernel
theorem dX5_isSo_52 : decode cX5_isSo 52 = .ok (.iadd, 1) := by decide +kernel
theorem dX5_isSo_53 : decode cX5_isSo 53 = .ok (.iaload, 1) := by decide +kernel
theorem dX5_isSo_54 : decode cX5_isSo 54 = .ok (.invokevirtual 134, 3) := by decide +kernel
theorem dX5_isSo_57 : decode cX5_isSo 57 = .ok (.goto 8, 3) := by decide +kernel
theorem dX5_isSo_60 : decode cX5_isSo 60 = .ok (.aload_n 0, 1) := by decide +kernel
theorem dX5_isSo_61 : decode cX5_isSo 61 = .ok (.iload_n 2, 1) := by decide +kernel
theorem dX5_isSo_62 : decode cX5_isSo 62 = .ok (.invokevirtual 114, 3) := by decide +kernel
theorem dX5_isSo_65 : decode cX5_isSo 65 = .ok (.ireturn, 1) := by decide +kernel
theorem dX5_text_0 : decode cX5_text 0 = .ok (.aload_n 0, 1) := by decide +kernel
theorem dX5_text_1 : decode cX5_text 1 = .ok (.iconst 0, 1) := by decide +kernel
theorem dX5_text_2 : decode cX5_text 2 = .ok (.putfield 263, 3) := by decide +kernel
theorem dX5_text_5 : decode cX5_text 5 = .ok (.aload_n 0, 1) := by decide +kernel
theorem dX5_text_6 : decode cX5_text 6 = .ok (.iconst 0, 1) := by decide +kernel
theorem dX5_text_7 : decode cX5_text 7 = .ok (.putfield 285, 3) := by decide +kernel
theorem dX5_text_10 : decode cX5_text 10 = .ok (.aload_n 0, 1) := by decide +kernel
theorem dX5_text_11 : decode cX5_text 11 = .ok (.iconst 0, 1) := by decide +kernel
theorem dX5_text_12 : decode cX5_text 12 = .ok (.putfield 296, 3) := by decide +kernel
theorem dX5_text_15 : decode cX5_text 15 = .ok (.aload_n 0, 1) := by decide +kernel
theorem dX5_text_16 : decode cX5_text 16 = .ok (.iconst 0, 1) := by decide +kernel
theorem dX5_text_17 : decode cX5_text 17 = .ok (.putfield 306, 3) := by decide +kernel
theorem dX5_text_20 : decode cX5_text 20 = .ok (.aload_n 0, 1) := by decide +kernel
theorem dX5_text_21 : decode cX5_text 21 = .ok (.aload_n 0, 1) := by decide +kernel
theorem dX5_text_22 : decode cX5_text 22 = .ok (.getfield 9, 3) := by decide +kernel
theorem dX5_text_25 : decode cX5_text 25 = .ok (.iconst 2, 1) := by decide +kernel
theorem dX5_text_26 : decode cX5_text 26 = .ok (.iaload, 1) := by decide +kernel
theorem dX5_text_27 : decode cX5_text 27 = .ok (.putfield 309, 3) := by decide +kernel
theorem dX5_text_30 : decode cX5_text 30 = .ok (.aload_n 0, 1) := by decide +kernel
theorem dX5_text_31 : decode cX5_text 31 = .ok (.invokevirtual 289, 3) := by decide +kernel
theorem dX5_text_34 : decode cX5_text 34 = .ok (.aload_n 0, 1) := by decide +kernel
theorem dX5_text_35 : decode cX5_text 35 = .ok (.invokevirtual 327, 3) := by decide +kernel
theorem dX5_text_38 : decode cX5_text 38 = .ok (.aload_n 0, 1) := by decide +kernel
theorem dX5_text_39 : decode cX5_text 39 = .ok (.getfield 285, 3) := by decide +kernel
theorem dX5_text_42 : decode cX5_text 42 = .ok (.ifCond .ne 37, 3) := by decide +kernel
theorem dX5_text_45 : decode cX5_text 45 = .ok (.aload_n 0, 1) := by decide +kernel
theorem dX5_text_46 : decode cX5_text 46 = .ok (.getfield 275, 3) := by decide +kernel
theorem dX5_text_49 : decode cX5_text 49 = .ok (.iconst 3, 1) := by decide +kernel
theorem dX5_text_50 : decode cX5_text 50 = .ok (.if_icmp .ne 29, 3) := by decide +kernel
theorem dX5_text_53 : decode cX5_text 53 = .ok (.aload_n 0, 1) := by decide +kernel
theorem dX5_text_54 : decode cX5_text 54 = .ok (.getfield 43, 3) := by decide +kernel
theorem dX5_text_57 : decode cX5_text 57 = .ok (.aload_n 0, 1) := by decide +kernel
theorem dX5_text_58 : decode cX5_text 58 = .ok (.getfield 266, 3) := by decide +kernel
theorem dX5_text_61 : decode cX5_text 61 = .ok (.iaload, 1) := by decide +kernel
theorem dX5_text_62 : decode cX5_text 62 = .ok (.bipush 59, 2) := by decide +kernel
theorem dX5_text_64 : decode cX5_text 64 = .ok (.if_icmp .ne 15, 3) := by decide +kernel
theorem dX5_text_67 : decode cX5_text 67 = .ok (.aload_n 0, 1) := by decide +kernel
theorem dX5_text_68 : decode cX5_text 68 = .ok (.iconst 1, 1) := by decide +kernel
theorem dX5_text_69 : decode cX5_text 69 = .ok (.invokevirtual 292, 3) := by decide +kernel
theorem dX5_text_72 : decode cX5_text 72 = .ok (.aload_n 0, 1) := by decide +kernel
theorem dX5_text_73 : decode cX5_text 73 = .ok (.invokevirtual 327, 3) := by decide +kernel
theorem dX5_text_76 : decode cX5_text 76 = .ok (.goto (-38), 3) := by decide +kernel
theorem dX5_text_79 : decode cX5_text 79 = .ok (.aload_n 0, 1) := by decide +kernel
theorem dX5_text_80 : decode cX5_text 80 = .ok (.aload_n 0, 1) := by decide +kernel
theorem dX5_text_81 : decode cX5_text 81 = .ok (.getfield 275, 3) := by decide +kernel
theorem dX5_text_84 : decode cX5_text 84 = .ok (.ifCond .ne 7, 3) := by decide +kernel
theorem dX5_text_87 : decode cX5_text 87 = .ok (.iconst 1, 1) := by decide +kernel
theorem dX5_text_88 : decode cX5_text 88 = .ok (.goto 4, 3) := by decide +kernel
theorem dX5_text_91 : decode cX5_text 91 = .ok (.iconst 0, 1) := by decide +kernel
theorem dX5_text_92 : decode cX5_text 92 = .ok (.invokevirtual 292, 3) := by decide +kernel
theorem dX5_text_95 : decode cX5_text 95 = .ok (.aload_n 0, 1) := by decide +kernel
theorem dX5_text_96 : decode cX5_text 96 = .ok (.iconst 0, 1) := by decide +kernel
theorem dX5_text_97 : decode cX5_text 97 = .ok (.putfield 260, 3) := by decide +kernel
theorem dX5_text_100 : decode cX5_text 100 = .ok (.aload_n 0, 1) := by decide +kernel
theorem dX5_text_101 : decode cX5_text 101 = .ok (.getfield 285, 3) := by decide +kernel
theorem dX5_text_104 : decode cX5_text 104 = .ok (.ifCond .eq 10, 3) := by decide +kernel
theorem dX5_text_107 : decode cX5_text 107 = .ok (.iconst (-1), 1) := by decide +kernel
theorem dX5_text_108 : decode cX5_text 108 = .ok (.aload_n 0, 1) := by decide +kernel
theorem dX5_text_109 : decode cX5_text 109 = .ok (.getfield 266, 3) := by decide +kernel
theorem dX5_text_112 : decode cX5_text 112 = .ok (.isub, 1) := by decide +kernel
theorem dX5_text_113 : decode cX5_text 113 = .ok (.ireturn, 1) := by decide +kernel
theorem dX5_text_114 : decode cX5_text 114 = .ok (.iconst 0, 1) := by decide +kernel
theorem dX5_text_115 : decode cX5_text 115 = .ok (.istore_n 1, 1) := by decide +kernel
theorem dX5_text_116 : decode cX5_text 116 = .ok (.iconst 0, 1) := by decide +kernel
theorem dX5_text_117 : decode cX5_text 117 = .ok (.istore_n 2, 1) := by decide +kernel
theorem dX5_text_118 : decode cX5_text 118 = .ok (.iload_n 2, 1) := by decide +kernel
theorem dX5_text_119 : decode cX5_text 119 = .ok (.aload_n 0, 1) := by decide +kernel
theorem dX5_text_120 : decode cX5_text 120 = .ok (.getfield 296, 3) := by decide +kernel
theorem dX5_text_123 : decode cX5_text 123 = .ok (.if_icmp .ge 27, 3) := by decide +kernel
theorem dX5_text_126 : decode cX5_text 126 = .ok (.iload_n 1, 1) := by decide +kernel
theorem dX5_text_127 : decode cX5_text 127 = .ok (.aload_n 0, 1) := by decide +kernel
theorem dX5_text_128 : decode cX5_text 128 = .ok (.iconst 3, 1) := by decide +kernel
theorem dX5_text_129 : decode cX5_text 129 = .ok (.iload_n 2, 1) := by decide +kernel
theorem dX5_text_130 : decode cX5_text 130 = .ok (.imul, 1) := by decide +kernel
theorem dX5_text_131 : decode cX5_text 131 = .ok (.invokevirtual 330, 3) := by decide +kernel
theorem dX5_text_134 : decode cX5_text 134 = .ok (.ifCond .ge 7, 3) := by decide +kernel
theorem dX5_text_137 : decode cX5_text 137 = .ok (.iconst 0, 1) := by decide +kernel
theorem dX5_text_138 : decode cX5_text 138 = .ok (.goto 4, 3) := by decide +kernel
theorem dX5_text_141 : decode cX5_text 141 = .ok (.iconst 1, 1) := by decide +kernel
theorem dX5_text_142 : decode cX5_text 142 = .ok (.iadd, 1) := by decide +kernel
theorem dX5_text_143 : decode cX5_text 143 = .ok (.istore_n 1, 1) := by decide +kernel
theorem dX5_text_144 : decode cX5_text 144 = .ok (.iinc 2 1, 3) := by decide +kernel
theorem dX5_text_147 : decode cX5_text 147 = .ok (.goto (-29), 3) := by decide +kernel
theorem dX5_text_150 : decode cX5_text 150 = .ok (.iload_n 1, 1) := by decide +kernel
theorem dX5_text_151 : decode cX5_text 151 = .ok (.aload_n 0, 1) := by decide +kernel
theorem dX5_text_152 : decode cX5_text 152 = .ok (.getfield 296, 3) := by decide +kernel
theorem dX5_text_155 : decode cX5_text 155 = .ok (.if_icmp .ne 10, 3) := by decide +kernel
theorem dX5_text_158 : decode cX5_text 158 = .ok (.aload_n 0, 1) := by decide +kernel
theorem dX5_text_159 : decode cX5_text 159 = .ok (.getfield 306, 3) := by decide +kernel
theorem dX5_text_162 : decode cX5_text 162 = .ok (.goto 4, 3) := by decide +kernel
theorem dX5_text_165 : decode cX5_text 165 = .ok (.iconst 0, 1) := by decide +kernel
theorem dX5_text_166 : decode cX5_text 166 = .ok (.ireturn, 1) := by decide +kernel
theorem dX5_isSpot_0 : decode cX5_isSpot 0 = .ok (.iload_n 0, 1) := by decide +kernel
theorem dX5_isSpot_1 : decode cX5_isSpot 1 = .ok (.iconst 0, 1) := by decide +kernel
theorem dX5_isSpot_2 : decode cX5_isSpot 2 = .ok (.bipush 9, 2) := by decide +kernel
theorem dX5_isSpot_4 : decode cX5_isSpot 4 = .ok (.invokestatic 97, 3) := by decide +kernel
theorem dX5_isSpot_7 : decode cX5_isSpot 7 = .ok (.ireturn, 1) := by decide +kernel
theorem dX5_hold_0 : decode cX5_hold 0 = .ok (.iload_n 1, 1) := by decide +kernel
theorem dX5_hold_1 : decode cX5_hold 1 = .ok (.invokestatic 333, 3) := by decide +kernel
theorem dX5_hold_4 : decode cX5_hold 4 = .ok (.ifCond .eq 16, 3) := by decide +kernel
theorem dX5_hold_7 : decode cX5_hold 7 = .ok (.iload_n 2, 1) := by decide +kernel
theorem dX5_hold_8 : decode cX5_hold 8 = .ok (.iconst (-1), 1) := by decide +kernel
theorem dX5_hold_9 : decode cX5_hold 9 = .ok (.if_icmp .eq 18, 3) := by decide +kernel
theorem dX5_hold_12 : decode cX5_hold 12 = .ok (.aload_n 0, 1) := by decide +kernel
theorem dX5_hold_13 : decode cX5_hold 13 = .ok (.iload_n 2, 1) := by decide +kernel
theorem dX5_hold_14 : decode cX5_hold 14 = .ok (.invokevirtual 128, 3) := by decide +kernel
theorem dX5_hold_17 : decode cX5_hold 17 = .ok (.ifCond .ne 10, 3) := by decide +kernel
theorem dX5_hold_20 : decode cX5_hold 20 = .ok (.aload_n 0, 1) := by decide +kernel
theorem dX5_hold_21 : decode cX5_hold 21 = .ok (.ldc 92, 2) := by decide +kernel
theorem dX5_hold_23 : decode cX5_hold 23 = .ok (.invokevirtual 109, 3) := by decide +kernel
theorem dX5_hold_26 : decode cX5_hold 26 = .ok (.ireturn, 1) := by decide +kernel
theorem dX5_hold_27 : decode cX5_hold 27 = .ok (.aload_n 0, 1) := by decide +kernel
theorem dX5_hold_28 : decode cX5_hold 28 = .ok (.getfield 9, 3) := by decide +kernel
theorem dX5_hold_31 : decode cX5_hold 31 = .ok (.iconst 4, 1) := by decide +kernel
theorem dX5_hold_32 : decode cX5_hold 32 = .ok (.iload_n 1, 1) := by decide +kernel
theorem dX5_hold_33 : decode cX5_hold 33 = .ok (.iadd, 1) := by decide +kernel
theorem dX5_hold_34 : decode cX5_hold 34 = .ok (.iload_n 2, 1) := by decide +kernel
theorem dX5_hold_35 : decode cX5_hold 35 = .ok (.iastore, 1) := by decide +kernel
theorem dX5_hold_36 : decode cX5_hold 36 = .ok (.iconst 1, 1) := by decide +kernel
theorem dX5_hold_37 : decode cX5_hold 37 = .ok (.ireturn, 1) := by decide +kernel
theorem dX5_as_0 : decode cX5_as 0 = .ok (.iload_n 1, 1) := by decide +kernel
theorem dX5_as_1 : decode cX5_as 1 = .ok (.invokestatic 333, 3) := by decide +kernel
theorem dX5_as_4 : decode cX5_as 4 = .ok (.ifCond .eq 10, 3) := by decide +kernel
theorem dX5_as_7 : decode cX5_as 7 = .ok (.iload_n 2, 1) := by decide +kernel
theorem dX5_as_8 : decode cX5_as 8 = .ok (.invokestatic 105, 3) := by decide +kernel
theorem dX5_as_11 : decode cX5_as 11 = .ok (.ifCond .ne 10, 3) := by decide +kernel
theorem dX5_as_14 : decode cX5_as 14 = .ok (.aload_n 0, 1) := by decide +kernel
theorem dX5_as_15 : decode cX5_as 15 = .ok (.ldc 92, 2) := by decide +kernel
theorem dX5_as_17 : decode cX5_as 17 = .ok (.invokevirtual 109, 3) := by decide +kernel
theorem dX5_as_20 : decode cX5_as 20 = .ok (.ireturn, 1) := by decide +kernel
theorem dX5_as_21 : decode cX5_as 21 = .ok (.aload_n 0, 1) := by decide +kernel
theorem dX5_as_22 : decode cX5_as 22 = .ok (.getfield 9, 3) := by decide +kernel
theorem dX5_as_25 : decode cX5_as 25 = .ok (.iconst 4, 1) := by decide +kernel
theorem dX5_as_26 : decode cX5_as 26 = .ok (.iload_n 1, 1) := by decide +kernel
theorem dX5_as_27 : decode cX5_as 27 = .ok (.iadd, 1) := by decide +kernel
theorem dX5_as_28 : decode cX5_as 28 = .ok (.iaload, 1) := by decide +kernel
theorem dX5_as_29 : decode cX5_as 29 = .ok (.istore_n 3, 1) := by decide +kernel
theorem dX5_as_30 : decode cX5_as 30 = .ok (.iload_n 3, 1) := by decide +kernel
theorem dX5_as_31 : decode cX5_as 31 = .ok (.ifCond .ge 11, 3) := by decide +kernel
theorem dX5_as_34 : decode cX5_as 34 = .ok (.aload_n 0, 1) := by decide +kernel
theorem dX5_as_35 : decode cX5_as 35 = .ok (.ldc_w 336, 3) := by decide +kernel
theorem dX5_as_38 : decode cX5_as 38 = .ok (.invokevirtual 109, 3) := by decide +kernel
theorem dX5_as_41 : decode cX5_as 41 = .ok (.ireturn, 1) := by decide +kernel
theorem dX5_as_42 : decode cX5_as 42 = .ok (.aload_n 0, 1) := by decide +kernel
theorem dX5_as_43 : decode cX5_as 43 = .ok (.iload_n 3, 1) := by decide +kernel
theorem dX5_as_44 : decode cX5_as 44 = .ok (.iconst 0, 1) := by decide +kernel
theorem dX5_as_45 : decode cX5_as 45 = .ok (.invokevirtual 120, 3) := by decide +kernel
theorem dX5_as_48 : decode cX5_as 48 = .ok (.iload_n 2, 1) := by decide +kernel
theorem dX5_as_49 : decode cX5_as 49 = .ok (.invokestatic 337, 3) := by decide +kernel
theorem dX5_as_52 : decode cX5_as 52 = .ok (.ifCond .eq 7, 3) := by decide +kernel
theorem dX5_as_55 : decode cX5_as 55 = .ok (.iload_n 3, 1) := by decide +kernel
theorem dX5_as_56 : decode cX5_as 56 = .ok (.goto 10, 3) := by decide +kernel
theorem dX5_as_59 : decode cX5_as 59 = .ok (.aload_n 0, 1) := by decide +kernel
theorem dX5_as_60 : decode cX5_as 60 = .ok (.ldc_w 340, 3) := by decide +kernel
theorem dX5_as_63 : decode cX5_as 63 = .ok (.invokevirtual 109, 3) := by decide +kernel
theorem dX5_as_66 : decode cX5_as 66 = .ok (.ireturn, 1) := by decide +kernel
theorem dX5_isSheet_0 : decode cX5_isSheet 0 = .ok (.iload_n 0, 1) := by decide +kernel
theorem dX5_isSheet_1 : decode cX5_isSheet 1 = .ok (.iconst 0, 1) := by decide +kernel
theorem dX5_isSheet_2 : decode cX5_isSheet 2 = .ok (.iconst 3, 1) := by decide +kernel
theorem dX5_isSheet_3 : decode cX5_isSheet 3 = .ok (.invokestatic 97, 3) := by decide +kernel
theorem dX5_isSheet_6 : decode cX5_isSheet 6 = .ok (.ireturn, 1) := by decide +kernel
theorem dX5_cutTo_0 : decode cX5_cutTo 0 = .ok (.iload_n 1, 1) := by decide +kernel
theorem dX5_cutTo_1 : decode cX5_cutTo 1 = .ok (.bipush 8, 2) := by decide +kernel
theorem dX5_cutTo_3 : decode cX5_cutTo 3 = .ok (.if_icmp .ne 8, 3) := by decide +kernel
theorem dX5_cutTo_6 : decode cX5_cutTo 6 = .ok (.iload_n 0, 1) := by decide +kernel
theorem dX5_cutTo_7 : decode cX5_cutTo 7 = .ok (.i2b, 1) := by decide +kernel
theorem dX5_cutTo_8 : decode cX5_cutTo 8 = .ok (.goto 15, 3) := by decide +kernel
theorem dX5_cutTo_11 : decode cX5_cutTo 11 = .ok (.iload_n 1, 1) := by decide +kernel
theorem dX5_cutTo_12 : decode cX5_cutTo 12 = .ok (.bipush 16, 2) := by decide +kernel
theorem dX5_cutTo_14 : decode cX5_cutTo 14 = .ok (.if_icmp .ne 8, 3) := by decide +kernel
theorem dX5_cutTo_17 : decode cX5_cutTo 17 = .ok (.iload_n 0, 1) := by decide +kernel
theorem dX5_cutTo_18 : decode cX5_cutTo 18 = .ok (.i2s, 1) := by decide +kernel
theorem dX5_cutTo_19 : decode cX5_cutTo 19 = .ok (.goto 4, 3) := by decide +kernel
theorem dX5_cutTo_22 : decode cX5_cutTo 22 = .ok (.iload_n 0, 1) := by decide +kernel
theorem dX5_cutTo_23 : decode cX5_cutTo 23 = .ok (.ireturn, 1) := by decide +kernel
theorem dX5_sheet_0 : decode cX5_sheet 0 = .ok (.iload_n 1, 1) := by decide +kernel
theorem dX5_sheet_1 : decode cX5_sheet 1 = .ok (.invokestatic 341, 3) := by decide +kernel
theorem dX5_sheet_4 : decode cX5_sheet 4 = .ok (.ifCond .eq 25, 3) := by decide +kernel
theorem dX5_sheet_7 : decode cX5_sheet 7 = .ok (.iload_n 2, 1) := by decide +kernel
theorem dX5_sheet_8 : decode cX5_sheet 8 = .ok (.ifCond .eq 28, 3) := by decide +kernel
theorem dX5_sheet_11 : decode cX5_sheet 11 = .ok (.iload_n 2, 1) := by decide +kernel
theorem dX5_sheet_12 : decode cX5_sheet 12 = .ok (.bipush 8, 2) := by decide +kernel
theorem dX5_sheet_14 : decode cX5_sheet 14 = .ok (.if_icmp .eq 22, 3) := by decide +kernel
theorem dX5_sheet_17 : decode cX5_sheet 17 = .ok (.iload_n 2, 1) := by decide +kernel
theorem dX5_sheet_18 : decode cX5_sheet 18 = .ok (.bipush 16, 2) := by decide +kernel
theorem dX5_sheet_20 : decode cX5_sheet 20 = .ok (.if_icmp .eq 16, 3) := by decide +kernel
theorem dX5_sheet_23 : decode cX5_sheet 23 = .ok (.iload_n 2, 1) := by decide +kernel
theorem dX5_sheet_24 : decode cX5_sheet 24 = .ok (.bipush 32, 2) := by decide +kernel
theorem dX5_sheet_26 : decode cX5_sheet 26 = .ok (.if_icmp .eq 10, 3) := by decide +kernel
theorem dX5_sheet_29 : decode cX5_sheet 29 = .ok (.aload_n 0, 1) := by decide +kernel
theorem dX5_sheet_30 : decode cX5_sheet 30 = .ok (.ldc 92, 2) := by decide +kernel
theorem dX5_sheet_32 : decode cX5_sheet 32 = .ok (.invokevirtual 109, 3) := by decide +kernel
theorem dX5_sheet_35 : decode cX5_sheet 35 = .ok (.ireturn, 1) := by decide +kernel
theorem dX5_sheet_36 : decode cX5_sheet 36 = .ok (.iload_n 3, 1) := by decide +kernel
theorem dX5_sheet_37 : decode cX5_sheet 37 = .ok (.ifCond .ge 11, 3) := by decide +kernel
theorem dX5_sheet_40 : decode cX5_sheet 40 = .ok (.aload_n 0, 1) := by decide +kernel
theorem dX5_sheet_41 : decode cX5_sheet 41 = .ok (.ldc_w 344, 3) := by decide +kernel
theorem dX5_sheet_44 : decode cX5_sheet 44 = .ok (.invokevirtual 109, 3) := by decide +kernel
theorem dX5_sheet_47 : decode cX5_sheet 47 = .ok (.ireturn, 1) := by decide +kernel
theorem dX5_sheet_48 : decode cX5_sheet 48 = .ok (.iload_n 3, 1) := by decide +kernel
theorem dX5_sheet_49 : decode cX5_sheet 49 = .ok (.bipush 40, 2) := by decide +kernel
theorem dX5_sheet_51 : decode cX5_sheet 51 = .ok (.if_icmp .le 10, 3) := by decide +kernel
theorem dX5_sheet_54 : decode cX5_sheet 54 = .ok (.aload_n 0, 1) := by decide +kernel
theorem dX5_sheet_55 : decode cX5_sheet 55 = .ok (.ldc 92, 2) := by decide +kernel
theorem dX5_sheet_57 : decode cX5_sheet 57 = .ok (.invokevirtual 109, 3) := by decide +kernel
theorem dX5_sheet_60 : decode cX5_sheet 60 = .ok (.ireturn, 1) := by decide +kernel
theorem dX5_sheet_61 : decode cX5_sheet 61 = .ok (.aload_n 0, 1) := by decide +kernel
theorem dX5_sheet_62 : decode cX5_sheet 62 = .ok (.getfield 80, 3) := by decide +kernel
theorem dX5_sheet_65 : decode cX5_sheet 65 = .ok (.iload_n 1, 1) := by decide +kernel
theorem dX5_sheet_66 : decode cX5_sheet 66 = .ok (.iload_n 2, 1) := by decide +kernel
theorem dX5_sheet_67 : decode cX5_sheet 67 = .ok (.iastore, 1) := by decide +kernel
theorem dX5_sheet_68 : decode cX5_sheet 68 = .ok (.aload_n 0, 1) := by decide +kernel
theorem dX5_sheet_69 : decode cX5_sheet 69 = .ok (.getfield 83, 3) := by decide +kernel
theorem dX5_sheet_72 : decode cX5_sheet 72 = .ok (.iload_n 1, 1) := by decide +kernel
theorem dX5_sheet_73 : decode cX5_sheet 73 = .ok (.iload_n 2, 1) := by decide +kernel
theorem dX5_sheet_74 : decode cX5_sheet 74 = .ok (.ifCond .ne 7, 3) := by decide +kernel
theorem dX5_sheet_77 : decode cX5_sheet 77 = .ok (.iconst 0, 1) := by decide +kernel
theorem dX5_sheet_78 : decode cX5_sheet 78 = .ok (.goto 4, 3) := by decide +kernel
theorem dX5_sheet_81 : decode cX5_sheet 81 = .ok (.iload_n 3, 1) := by decide +kernel
theorem dX5_sheet_82 : decode cX5_sheet 82 = .ok (.iastore, 1) := by decide +kernel
theorem dX5_sheet_83 : decode cX5_sheet 83 = .ok (.iconst 0, 1) := by decide +kernel
theorem dX5_sheet_84 : decode cX5_sheet 84 = .ok (.istore 4, 2) := by decide +kernel
theorem dX5_sheet_86 : decode cX5_sheet 86 = .ok (.iload 4, 2) := by decide +kernel
theorem dX5_sheet_88 : decode cX5_sheet 88 = .ok (.bipush 40, 2) := by decide +kernel
theorem dX5_sheet_90 : decode cX5_sheet 90 = .ok (.if_icmp .ge 22, 3) := by decide +kernel
theorem dX5_sheet_93 : decode cX5_sheet 93 = .ok (.aload_n 0, 1) := by decide +kernel
theorem dX5_sheet_94 : decode cX5_sheet 94 = .ok (.getfield 86, 3) := by decide +kernel
theorem dX5_sheet_97 : decode cX5_sheet 97 = .ok (.bipush 40, 2) := by decide +kernel
theorem dX5_sheet_99 : decode cX5_sheet 99 = .ok (.iload_n 1, 1) := by decide +kernel
theorem dX5_sheet_100 : decode cX5_sheet 100 = .ok (.imul, 1) := by decide +kernel
theorem dX5_sheet_101 : decode cX5_sheet 101 = .ok (.iload 4, 2) := by decide +kernel
theorem dX5_sheet_103 : decode cX5_sheet 103 = .ok (.iadd, 1) := by decide +kernel
theorem dX5_sheet_104 : decode cX5_sheet 104 = .ok (.iconst 0, 1) := by decide +kernel
theorem dX5_sheet_105 : decode cX5_sheet 105 = .ok (.iastore, 1) := by decide +kernel
theorem dX5_sheet_106 : decode cX5_sheet 106 = .ok (.iinc 4 1, 3) := by decide +kernel
theorem dX5_sheet_109 : decode cX5_sheet 109 = .ok (.goto (-23), 3) := by decide +kernel
theorem dX5_sheet_112 : decode cX5_sheet 112 = .ok (.aload_n 0, 1) := by decide +kernel
theorem dX5_sheet_113 : decode cX5_sheet 113 = .ok (.getfield 83, 3) := by decide +kernel
theorem dX5_sheet_116 : decode cX5_sheet 116 = .ok (.iload_n 1, 1) := by decide +kernel
theorem dX5_sheet_117 : decode cX5_sheet 117 = .ok (.iaload, 1) := by decide +kernel
theorem dX5_sheet_118 : decode cX5_sheet 118 = .ok (.ireturn, 1) := by decide +kernel
theorem dX5_write_0 : decode cX5_write 0 = .ok (.iload_n 1, 1) := by decide +kernel
theorem dX5_write_1 : decode cX5_write 1 = .ok (.invokestatic 341, 3) := by decide +kernel
theorem dX5_write_4 : decode cX5_write 4 = .ok (.ifCond .ne 10, 3) := by decide +kernel
theorem dX5_write_7 : decode cX5_write 7 = .ok (.aload_n 0, 1) := by decide +kernel
theorem dX5_write_8 : decode cX5_write 8 = .ok (.ldc 92, 2) := by decide +kernel
theorem dX5_write_10 : decode cX5_write 10 = .ok (.invokevirtual 109, 3) := by decide +kernel
theorem dX5_write_13 : decode cX5_write 13 = .ok (.ireturn, 1) := by decide +kernel
theorem dX5_write_14 : decode cX5_write 14 = .ok (.aload_n 0, 1) := by decide +kernel
theorem dX5_write_15 : decode cX5_write 15 = .ok (.getfield 80, 3) := by decide +kernel
theorem dX5_write_18 : decode cX5_write 18 = .ok (.iload_n 1, 1) := by decide +kernel
theorem dX5_write_19 : decode cX5_write 19 = .ok (.iaload, 1) := by decide +kernel
theorem dX5_write_20 : decode cX5_write 20 = .ok (.ifCond .ne 11, 3) := by decide +kernel
theorem dX5_write_23 : decode cX5_write 23 = .ok (.aload_n 0, 1) := by decide +kernel
theorem dX5_write_24 : decode cX5_write 24 = .ok (.ldc_w 336, 3) := by decide +kernel
theorem dX5_write_27 : decode cX5_write 27 = .ok (.invokevirtual 109, 3) := by decide +kernel
theorem dX5_write_30 : decode cX5_write 30 = .ok (.ireturn, 1) := by decide +kernel
theorem dX5_write_31 : decode cX5_write 31 = .ok (.iload_n 2, 1) := by decide +kernel
theorem dX5_write_32 : decode cX5_write 32 = .ok (.iconst 0, 1) := by decide +kernel
theorem dX5_write_33 : decode cX5_write 33 = .ok (.aload_n 0, 1) := by decide +kernel
theorem dX5_write_34 : decode cX5_write 34 = .ok (.getfield 83, 3) := by decide +kernel
theorem dX5_write_37 : decode cX5_write 37 = .ok (.iload_n 1, 1) := by decide +kernel
theorem dX5_write_38 : decode cX5_write 38 = .ok (.iaload, 1) := by decide +kernel
theorem dX5_write_39 : decode cX5_write 39 = .ok (.iconst 1, 1) := by decide +kernel
theorem dX5_write_40 : decode cX5_write 40 = .ok (.isub, 1) := by decide +kernel
theorem dX5_write_41 : decode cX5_write 41 = .ok (.invokestatic 97, 3) := by decide +kernel
theorem dX5_write_44 : decode cX5_write 44 = .ok (.ifCond .ne 10, 3) := by decide +kernel
theorem dX5_write_47 : decode cX5_write 47 = .ok (.aload_n 0, 1) := by decide +kernel
theorem dX5_write_48 : decode cX5_write 48 = .ok (.ldc 92, 2) := by decide +kernel
theorem dX5_write_50 : decode cX5_write 50 = .ok (.invokevirtual 109, 3) := by decide +kernel
theorem dX5_write_53 : decode cX5_write 53 = .ok (.ireturn, 1) := by decide +kernel
theorem dX5_write_54 : decode cX5_write 54 = .ok (.aload_n 0, 1) := by decide +kernel
theorem dX5_write_55 : decode cX5_write 55 = .ok (.getfield 86, 3) := by decide +kernel
theorem dX5_write_58 : decode cX5_write 58 = .ok (.bipush 40, 2) := by decide +kernel
theorem dX5_write_60 : decode cX5_write 60 = .ok (.iload_n 1, 1) := by decide +kernel
theorem dX5_write_61 : decode cX5_write 61 = .ok (.imul, 1) := by decide +kernel
theorem dX5_write_62 : decode cX5_write 62 = .ok (.iload_n 2, 1) := by decide +kernel
theorem dX5_write_63 : decode cX5_write 63 = .ok (.iadd, 1) := by decide +kernel
theorem dX5_write_64 : decode cX5_write 64 = .ok (.iload_n 3, 1) := by decide +kernel
theorem dX5_write_65 : decode cX5_write 65 = .ok (.aload_n 0, 1) := by decide +kernel
theorem dX5_write_66 : decode cX5_write 66 = .ok (.getfield 80, 3) := by decide +kernel
theorem dX5_write_69 : decode cX5_write 69 = .ok (.iload_n 1, 1) := by decide +kernel
theorem dX5_write_70 : decode cX5_write 70 = .ok (.iaload, 1) := by decide +kernel
theorem dX5_write_71 : decode cX5_write 71 = .ok (.invokestatic 345, 3) := by decide +kernel
theorem dX5_write_74 : decode cX5_write 74 = .ok (.iastore, 1) := by decide +kernel
theorem dX5_write_75 : decode cX5_write 75 = .ok (.iconst 1, 1) := by decide +kernel
theorem dX5_write_76 : decode cX5_write 76 = .ok (.ireturn, 1) := by decide +kernel
theorem dX5_copy_0 : decode cX5_copy 0 = .ok (.iload_n 1, 1) := by decide +kernel
theorem dX5_copy_1 : decode cX5_copy 1 = .ok (.invokestatic 341, 3) := by decide +kernel
theorem dX5_copy_4 : decode cX5_copy 4 = .ok (.ifCond .eq 10, 3) := by decide +kernel
theorem dX5_copy_7 : decode cX5_copy 7 = .ok (.iload_n 3, 1) := by decide +kernel
theorem dX5_copy_8 : decode cX5_copy 8 = .ok (.invokestatic 341, 3) := by decide +kernel
theorem dX5_copy_11 : decode cX5_copy 11 = .ok (.ifCond .ne 10, 3) := by decide +kernel
theorem dX5_copy_14 : decode cX5_copy 14 = .ok (.aload_n 0, 1) := by decide +kernel
theorem dX5_copy_15 : decode cX5_copy 15 = .ok (.ldc 92, 2) := by decide +kernel
theorem dX5_copy_17 : decode cX5_copy 17 = .ok (.invokevirtual 109, 3) := by decide +kernel
theorem dX5_copy_20 : decode cX5_copy 20 = .ok (.ireturn, 1) := by decide +kernel
theorem dX5_copy_21 : decode cX5_copy 21 = .ok (.aload_n 0, 1) := by decide +kernel
theorem dX5_copy_22 : decode cX5_copy 22 = .ok (.getfield 80, 3) := by decide +kernel
theorem dX5_copy_25 : decode cX5_copy 25 = .ok (.iload_n 1, 1) := by decide +kernel
theorem dX5_copy_26 : decode cX5_copy 26 = .ok (.iaload, 1) := by decide +kernel
theorem dX5_copy_27 : decode cX5_copy 27 = .ok (.ifCond .eq 12, 3) := by decide +kernel
theorem dX5_copy_30 : decode cX5_copy 30 = .ok (.aload_n 0, 1) := by decide +kernel
theorem dX5_copy_31 : decode cX5_copy 31 = .ok (.getfield 80, 3) := by decide +kernel
theorem dX5_copy_34 : decode cX5_copy 34 = .ok (.iload_n 3, 1) := by decide +kernel
theorem dX5_copy_35 : decode cX5_copy 35 = .ok (.iaload, 1) := by decide +kernel
theorem dX5_copy_36 : decode cX5_copy 36 = .ok (.ifCond .ne 11, 3) := by decide +kernel
theorem dX5_copy_39 : decode cX5_copy 39 = .ok (.aload_n 0, 1) := by decide +kernel
theorem dX5_copy_40 : decode cX5_copy 40 = .ok (.ldc_w 336, 3) := by decide +kernel
theorem dX5_copy_43 : decode cX5_copy 43 = .ok (.invokevirtual 109, 3) := by decide +kernel
theorem dX5_copy_46 : decode cX5_copy 46 = .ok (.ireturn, 1) := by decide +kernel
theorem dX5_copy_47 : decode cX5_copy 47 = .ok (.aload_n 0, 1) := by decide +kernel
theorem dX5_copy_48 : decode cX5_copy 48 = .ok (.getfield 80, 3) := by decide +kernel
theorem dX5_copy_51 : decode cX5_copy 51 = .ok (.iload_n 1, 1) := by decide +kernel
theorem dX5_copy_52 : decode cX5_copy 52 = .ok (.iaload, 1) := by decide +kernel
theorem dX5_copy_53 : decode cX5_copy 53 = .ok (.aload_n 0, 1) := by decide +kernel
theorem dX5_copy_54 : decode cX5_copy 54 = .ok (.getfield 80, 3) := by decide +kernel
theorem dX5_copy_57 : decode cX5_copy 57 = .ok (.iload_n 3, 1) := by decide +kernel
theorem dX5_copy_58 : decode cX5_copy 58 = .ok (.iaload, 1) := by decide +kernel
theorem dX5_copy_59 : decode cX5_copy 59 = .ok (.if_icmp .eq 11, 3) := by decide +kernel
theorem dX5_copy_62 : decode cX5_copy 62 = .ok (.aload_n 0, 1) := by decide +kernel
theorem dX5_copy_63 : decode cX5_copy 63 = .ok (.ldc_w 340, 3) := by decide +kernel
theorem dX5_copy_66 : decode cX5_copy 66 = .ok (.invokevirtual 109, 3) := by decide +kernel
theorem dX5_copy_69 : decode cX5_copy 69 = .ok (.ireturn, 1) := by decide +kernel
theorem dX5_copy_70 : decode cX5_copy 70 = .ok (.iload_n 2, 1) := by decide +kernel
theorem dX5_copy_71 : decode cX5_copy 71 = .ok (.ifCond .lt 48, 3) := by decide +kernel
theorem dX5_copy_74 : decode cX5_copy 74 = .ok (.iload 4, 2) := by decide +kernel
theorem dX5_copy_76 : decode cX5_copy 76 = .ok (.ifCond .lt 43, 3) := by decide +kernel
theorem dX5_copy_79 : decode cX5_copy 79 = .ok (.iload 5, 2) := by decide +kernel
theorem dX5_copy_81 : decode cX5_copy 81 = .ok (.ifCond .lt 38, 3) := by decide +kernel
theorem dX5_copy_84 : decode cX5_copy 84 = .ok (.iload_n 2, 1) := by decide +kernel
theorem dX5_copy_85 : decode cX5_copy 85 = .ok (.i2l, 1) := by decide +kernel
theorem dX5_copy_86 : decode cX5_copy 86 = .ok (.iload 5, 2) := by decide +kernel
theorem dX5_copy_88 : decode cX5_copy 88 = .ok (.i2l, 1) := by decide +kernel
theorem dX5_copy_89 : decode cX5_copy 89 = .ok (.ladd, 1) := by decide +kernel
theorem dX5_copy_90 : decode cX5_copy 90 = .ok (.aload_n 0, 1) := by decide +kernel
theorem dX5_copy_91 : decode cX5_copy 91 = .ok (.getfield 83, 3) := by decide +kernel
theorem dX5_copy_94 : decode cX5_copy 94 = .ok (.iload_n 1, 1) := by decide +kernel
theorem dX5_copy_95 : decode cX5_copy 95 = .ok (.iaload, 1) := by decide +kernel
theorem dX5_copy_96 : decode cX5_copy 96 = .ok (.i2l, 1) := by decide +kernel
theorem dX5_copy_97 : decode cX5_copy 97 = .ok (.lcmp, 1) := by decide +kernel
theorem dX5_copy_98 : decode cX5_copy 98 = .ok (.ifCond .gt 21, 3) := by decide +kernel
theorem dX5_copy_101 : decode cX5_copy 101 = .ok (.iload 4, 2) := by decide +kernel
theorem dX5_copy_103 : decode cX5_copy 103 = .ok (.i2l, 1) := by decide +kernel
theorem dX5_copy_104 : decode cX5_copy 104 = .ok (.iload 5, 2) := by decide +kernel
theorem dX5_copy_106 : decode cX5_copy 106 = .ok (.i2l, 1) := by decide +kernel
theorem dX5_copy_107 : decode cX5_copy 107 = .ok (.ladd, 1) := by decide +kernel
theorem dX5_copy_108 : decode cX5_copy 108 = .ok (.aload_n 0, 1) := by decide +kernel
theorem dX5_copy_109 : decode cX5_copy 109 = .ok (.getfield 83, 3) := by decide +kernel
theorem dX5_copy_112 : decode cX5_copy 112 = .ok (.iload_n 3, 1) := by decide +kernel
theorem dX5_copy_113 : decode cX5_copy 113 = .ok (.iaload, 1) := by decide +kernel
theorem dX5_copy_114 : decode cX5_copy 114 = .ok (.i2l, 1) := by decide +kernel
theorem dX5_copy_115 : decode cX5_copy 115 = .ok (.lcmp, 1) := by decide +kernel
theorem dX5_copy_116 : decode cX5_copy 116 = .ok (.ifCond .le 10, 3) := by decide +kernel
theorem dX5_copy_119 : decode cX5_copy 119 = .ok (.aload_n 0, 1) := by decide +kernel
theorem dX5_copy_120 : decode cX5_copy 120 = .ok (.ldc 92, 2) := by decide +kernel
theorem dX5_copy_122 : decode cX5_copy 122 = .ok (.invokevirtual 109, 3) := by decide +kernel
theorem dX5_copy_125 : decode cX5_copy 125 = .ok (.ireturn, 1) := by decide +kernel
theorem dX5_copy_126 : decode cX5_copy 126 = .ok (.iconst 0, 1) := by decide +kernel
theorem dX5_copy_127 : decode cX5_copy 127 = .ok (.istore 6, 2) := by decide +kernel
theorem dX5_copy_129 : decode cX5_copy 129 = .ok (.iload 6, 2) := by decide +kernel
theorem dX5_copy_131 : decode cX5_copy 131 = .ok (.iload 5, 2) := by decide +kernel
theorem dX5_copy_133 : decode cX5_copy 133 = .ok (.if_icmp .ge 30, 3) := by decide +kernel
theorem dX5_copy_136 : decode cX5_copy 136 = .ok (.aload_n 0, 1) := by decide +kernel
theorem dX5_copy_137 : decode cX5_copy 137 = .ok (.getfield 89, 3) := by decide +kernel
theorem dX5_copy_140 : decode cX5_copy 140 = .ok (.iload 6, 2) := by decide +kernel
theorem dX5_copy_142 : decode cX5_copy 142 = .ok (.aload_n 0, 1) := by decide +kernel
theorem dX5_copy_143 : decode cX5_copy 143 = .ok (.getfield 86, 3) := by decide +kernel
theorem dX5_copy_146 : decode cX5_copy 146 = .ok (.bipush 40, 2) := by decide +kernel
theorem dX5_copy_148 : decode cX5_copy 148 = .ok (.iload_n 1, 1) := by decide +kernel
theorem dX5_copy_149 : decode cX5_copy 149 = .ok (.imul, 1) := by decide +kernel
theorem dX5_copy_150 : decode cX5_copy 150 = .ok (.iload_n 2, 1) := by decide +kernel
theorem dX5_copy_151 : decode cX5_copy 151 = .ok (.iadd, 1) := by decide +kernel
theorem dX5_copy_152 : decode cX5_copy 152 = .ok (.iload 6, 2) := by decide +kernel
theorem dX5_copy_154 : decode cX5_copy 154 = .ok (.iadd, 1) := by decide +kernel
theorem dX5_copy_155 : decode cX5_copy 155 = .ok (.iaload, 1) := by decide +kernel
theorem dX5_copy_156 : decode cX5_copy 156 = .ok (.iastore, 1) := by decide +kernel
theorem dX5_copy_157 : decode cX5_copy 157 = .ok (.iinc 6 1, 3) := by decide +kernel
theorem dX5_copy_160 : decode cX5_copy 160 = .ok (.goto (-31), 3) := by decide +kernel
theorem dX5_copy_163 : decode cX5_copy 163 = .ok (.iconst 0, 1) := by decide +kernel
theorem dX5_copy_164 : decode cX5_copy 164 = .ok (.istore 6, 2) := by decide +kernel
theorem dX5_copy_166 : decode cX5_copy 166 = .ok (.iload 6, 2) := by decide +kernel
theorem dX5_copy_168 : decode cX5_copy 168 = .ok (.iload 5, 2) := by decide +kernel
theorem dX5_copy_170 : decode cX5_copy 170 = .ok (.if_icmp .ge 31, 3) := by decide +kernel
theorem dX5_copy_173 : decode cX5_copy 173 = .ok (.aload_n 0, 1) := by decide +kernel
theorem dX5_copy_174 : decode cX5_copy 174 = .ok (.getfield 86, 3) := by decide +kernel
theorem dX5_copy_177 : decode cX5_copy 177 = .ok (.bipush 40, 2) := by decide +kernel
theorem dX5_copy_179 : decode cX5_copy 179 = .ok (.iload_n 3, 1) := by decide +kernel
theorem dX5_copy_180 : decode cX5_copy 180 = .ok (.imul, 1) := by decide +kernel
theorem dX5_copy_181 : decode cX5_copy 181 = .ok (.iload 4, 2) := by decide +kernel
theorem dX5_copy_183 : decode cX5_copy 183 = .ok (.iadd, 1) := by decide +kernel
theorem dX5_copy_184 : decode cX5_copy 184 = .ok (.iload 6, 2) := by decide +kernel
theorem dX5_copy_186 : decode cX5_copy 186 = .ok (.iadd, 1) := by decide +kernel
theorem dX5_copy_187 : decode cX5_copy 187 = .ok (.aload_n 0, 1) := by decide +kernel
theorem dX5_copy_188 : decode cX5_copy 188 = .ok (.getfield 89, 3) := by decide +kernel
theorem dX5_copy_191 : decode cX5_copy 191 = .ok (.iload 6, 2) := by decide +kernel
theorem dX5_copy_193 : decode cX5_copy 193 = .ok (.iaload, 1) := by decide +kernel
theorem dX5_copy_194 : decode cX5_copy 194 = .ok (.iastore, 1) := by decide +kernel
theorem dX5_copy_195 : decode cX5_copy 195 = .ok (.iinc 6 1, 3) := by decide +kernel
theorem dX5_copy_198 : decode cX5_copy 198 = .ok (.goto (-32), 3) := by decide +kernel
theorem dX5_copy_201 : decode cX5_copy 201 = .ok (.iload 5, 2) := by decide +kernel
theorem dX5_copy_203 : decode cX5_copy 203 = .ok (.ireturn, 1) := by decide +kernel
theorem dX5_load_0 : decode cX5_load 0 = .ok (.iload_n 1, 1) := by decide +kernel
theorem dX5_load_1 : decode cX5_load 1 = .ok (.invokestatic 341, 3) := by decide +kernel
theorem dX5_load_4 : decode cX5_load 4 = .ok (.ifCond .ne 10, 3) := by decide +kernel
theorem dX5_load_7 : decode cX5_load 7 = .ok (.aload_n 0, 1) := by decide +kernel
theorem dX5_load_8 : decode cX5_load 8 = .ok (.ldc 92, 2) := by decide +kernel
theorem dX5_load_10 : decode cX5_load 10 = .ok (.invokevirtual 109, 3) := by decide +kernel
theorem dX5_load_13 : decode cX5_load 13 = .ok (.ireturn, 1) := by decide +kernel
theorem dX5_load_14 : decode cX5_load 14 = .ok (.aload_n 0, 1) := by decide +kernel
theorem dX5_load_15 : decode cX5_load 15 = .ok (.getfield 80, 3) := by decide +kernel
theorem dX5_load_18 : decode cX5_load 18 = .ok (.iload_n 1, 1) := by decide +kernel
theorem dX5_load_19 : decode cX5_load 19 = .ok (.iaload, 1) := by decide +kernel
theorem dX5_load_20 : decode cX5_load 20 = .ok (.ifCond .ne 11, 3) := by decide +kernel
theorem dX5_load_23 : decode cX5_load 23 = .ok (.aload_n 0, 1) := by decide +kernel
theorem dX5_load_24 : decode cX5_load 24 = .ok (.ldc_w 336, 3) := by decide +kernel
theorem dX5_load_27 : decode cX5_load 27 = .ok (.invokevirtual 109, 3) := by decide +kernel
theorem dX5_load_30 : decode cX5_load 30 = .ok (.ireturn, 1) := by decide +kernel
theorem dX5_load_31 : decode cX5_load 31 = .ok (.iconst 0, 1) := by decide +kernel
theorem dX5_load_32 : decode cX5_load 32 = .ok (.istore_n 2, 1) := by decide +kernel
theorem dX5_load_33 : decode cX5_load 33 = .ok (.iload_n 2, 1) := by decide +kernel
theorem dX5_load_34 : decode cX5_load 34 = .ok (.aload_n 0, 1) := by decide +kernel
theorem dX5_load_35 : decode cX5_load 35 = .ok (.getfield 83, 3) := by decide +kernel
theorem dX5_load_38 : decode cX5_load 38 = .ok (.iload_n 1, 1) := by decide +kernel
theorem dX5_load_39 : decode cX5_load 39 = .ok (.iaload, 1) := by decide +kernel
theorem dX5_load_40 : decode cX5_load 40 = .ok (.if_icmp .ge 59, 3) := by decide +kernel
theorem dX5_load_43 : decode cX5_load 43 = .ok (.aload_n 0, 1) := by decide +kernel
theorem dX5_load_44 : decode cX5_load 44 = .ok (.iload_n 2, 1) := by decide +kernel
theorem dX5_load_45 : decode cX5_load 45 = .ok (.invokevirtual 128, 3) := by decide +kernel
theorem dX5_load_48 : decode cX5_load 48 = .ok (.ifCond .eq 51, 3) := by decide +kernel
theorem dX5_load_51 : decode cX5_load 51 = .ok (.aload_n 0, 1) := by decide +kernel
theorem dX5_load_52 : decode cX5_load 52 = .ok (.getfield 86, 3) := by decide +kernel
theorem dX5_load_55 : decode cX5_load 55 = .ok (.bipush 40, 2) := by decide +kernel
theorem dX5_load_57 : decode cX5_load 57 = .ok (.iload_n 1, 1) := by decide +kernel
theorem dX5_load_58 : decode cX5_load 58 = .ok (.imul, 1) := by decide +kernel
theorem dX5_load_59 : decode cX5_load 59 = .ok (.iload_n 2, 1) := by decide +kernel
theorem dX5_load_60 : decode cX5_load 60 = .ok (.iadd, 1) := by decide +kernel
theorem dX5_load_61 : decode cX5_load 61 = .ok (.iaload, 1) := by decide +kernel
theorem dX5_load_62 : decode cX5_load 62 = .ok (.iconst 0, 1) := by decide +kernel
theorem dX5_load_63 : decode cX5_load 63 = .ok (.sipush 999, 3) := by decide +kernel
theorem dX5_load_66 : decode cX5_load 66 = .ok (.invokestatic 97, 3) := by decide +kernel
theorem dX5_load_69 : decode cX5_load 69 = .ok (.ifCond .eq 30, 3) := by decide +kernel
theorem dX5_load_72 : decode cX5_load 72 = .ok (.aload_n 0, 1) := by decide +kernel
theorem dX5_load_73 : decode cX5_load 73 = .ok (.getfield 9, 3) := by decide +kernel
theorem dX5_load_76 : decode cX5_load 76 = .ok (.iload_n 2, 1) := by decide +kernel
theorem dX5_load_77 : decode cX5_load 77 = .ok (.iconst 2, 1) := by decide +kernel
theorem dX5_load_78 : decode cX5_load 78 = .ok (.invokestatic 101, 3) := by decide +kernel
theorem dX5_load_81 : decode cX5_load 81 = .ok (.aload_n 0, 1) := by decide +kernel
theorem dX5_load_82 : decode cX5_load 82 = .ok (.getfield 86, 3) := by decide +kernel
theorem dX5_load_85 : decode cX5_load 85 = .ok (.bipush 40, 2) := by decide +kernel
theorem dX5_load_87 : decode cX5_load 87 = .ok (.iload_n 1, 1) := by decide +kernel
theorem dX5_load_88 : decode cX5_load 88 = .ok (.imul, 1) := by decide +kernel
theorem dX5_load_89 : decode cX5_load 89 = .ok (.iload_n 2, 1) := by decide +kernel
theorem dX5_load_90 : decode cX5_load 90 = .ok (.iadd, 1) := by decide +kernel
theorem dX5_load_91 : decode cX5_load 91 = .ok (.iaload, 1) := by decide +kernel
theorem dX5_load_92 : decode cX5_load 92 = .ok (.iastore, 1) := by decide +kernel
theorem dX5_load_93 : decode cX5_load 93 = .ok (.iinc 2 1, 3) := by decide +kernel
theorem dX5_load_96 : decode cX5_load 96 = .ok (.goto (-63), 3) := by decide +kernel
theorem dX5_load_99 : decode cX5_load 99 = .ok (.iload_n 2, 1) := by decide +kernel
theorem dX5_load_100 : decode cX5_load 100 = .ok (.ireturn, 1) := by decide +kernel
theorem dX5_judge_0 : decode cX5_judge 0 = .ok (.iload_n 1, 1) := by decide +kernel
theorem dX5_judge_1 : decode cX5_judge 1 = .ok (.invokestatic 341, 3) := by decide +kernel
theorem dX5_judge_4 : decode cX5_judge 4 = .ok (.ifCond .ne 10, 3) := by decide +kernel
theorem dX5_judge_7 : decode cX5_judge 7 = .ok (.aload_n 0, 1) := by decide +kernel
theorem dX5_judge_8 : decode cX5_judge 8 = .ok (.ldc 92, 2) := by decide +kernel
theorem dX5_judge_10 : decode cX5_judge 10 = .ok (.invokevirtual 109, 3) := by decide +kernel
theorem dX5_judge_13 : decode cX5_judge 13 = .ok (.ireturn, 1) := by decide +kernel
theorem dX5_judge_14 : decode cX5_judge 14 = .ok (.aload_n 0, 1) := by decide +kernel
theorem dX5_judge_15 : decode cX5_judge 15 = .ok (.getfield 80, 3) := by decide +kernel
theorem dX5_judge_18 : decode cX5_judge 18 = .ok (.iload_n 1, 1) := by decide +kernel
theorem dX5_judge_19 : decode cX5_judge 19 = .ok (.iaload, 1) := by decide +kernel
theorem dX5_judge_20 : decode cX5_judge 20 = .ok (.ifCond .ne 11, 3) := by decide +kernel
theorem dX5_judge_23 : decode cX5_judge 23 = .ok (.aload_n 0, 1) := by decide +kernel
theorem dX5_judge_24 : decode cX5_judge 24 = .ok (.ldc_w 336, 3) := by decide +kernel
theorem dX5_judge_27 : decode cX5_judge 27 = .ok (.invokevirtual 109, 3) := by decide +kernel
theorem dX5_judge_30 : decode cX5_judge 30 = .ok (.ireturn, 1) := by decide +kernel
theorem dX5_judge_31 : decode cX5_judge 31 = .ok (.aload_n 0, 1) := by decide +kernel
theorem dX5_judge_32 : decode cX5_judge 32 = .ok (.iload_n 2, 1) := by decide +kernel
theorem dX5_judge_33 : decode cX5_judge 33 = .ok (.invokevirtual 128, 3) := by decide +kernel
theorem dX5_judge_36 : decode cX5_judge 36 = .ok (.ifCond .ne 10, 3) := by decide +kernel
theorem dX5_judge_39 : decode cX5_judge 39 = .ok (.aload_n 0, 1) := by decide +kernel
theorem dX5_judge_40 : decode cX5_judge 40 = .ok (.ldc 92, 2) := by decide +kernel
theorem dX5_judge_42 : decode cX5_judge 42 = .ok (.invokevirtual 109, 3) := by decide +kernel
theorem dX5_judge_45 : decode cX5_judge 45 = .ok (.ireturn, 1) := by decide +kernel
theorem dX5_judge_46 : decode cX5_judge 46 = .ok (.aload_n 0, 1) := by decide +kernel
theorem dX5_judge_47 : decode cX5_judge 47 = .ok (.aload_n 0, 1) := by decide +kernel
theorem dX5_judge_48 : decode cX5_judge 48 = .ok (.getfield 83, 3) := by decide +kernel
theorem dX5_judge_51 : decode cX5_judge 51 = .ok (.iload_n 1, 1) := by decide +kernel
theorem dX5_judge_52 : decode cX5_judge 52 = .ok (.iaload, 1) := by decide +kernel
theorem dX5_judge_53 : decode cX5_judge 53 = .ok (.invokevirtual 160, 3) := by decide +kernel
theorem dX5_judge_56 : decode cX5_judge 56 = .ok (.ifCond .eq 10, 3) := by decide +kernel
theorem dX5_judge_59 : decode cX5_judge 59 = .ok (.aload_n 0, 1) := by decide +kernel
theorem dX5_judge_60 : decode cX5_judge 60 = .ok (.ldc 163, 2) := by decide +kernel
theorem dX5_judge_62 : decode cX5_judge 62 = .ok (.invokevirtual 109, 3) := by decide +kernel
theorem dX5_judge_65 : decode cX5_judge 65 = .ok (.ireturn, 1) := by decide +kernel
theorem dX5_judge_66 : decode cX5_judge 66 = .ok (.aload_n 0, 1) := by decide +kernel
theorem dX5_judge_67 : decode cX5_judge 67 = .ok (.getfield 9, 3) := by decide +kernel
theorem dX5_judge_70 : decode cX5_judge 70 = .ok (.aload_n 0, 1) := by decide +kernel
theorem dX5_judge_71 : decode cX5_judge 71 = .ok (.getfield 16, 3) := by decide +kernel
theorem dX5_judge_74 : decode cX5_judge 74 = .ok (.invokestatic 93, 3) := by decide +kernel
theorem dX5_judge_77 : decode cX5_judge 77 = .ok (.iconst 0, 1) := by decide +kernel
theorem dX5_judge_78 : decode cX5_judge 78 = .ok (.istore_n 3, 1) := by decide +kernel
theorem dX5_judge_79 : decode cX5_judge 79 = .ok (.iload_n 3, 1) := by decide +kernel
theorem dX5_judge_80 : decode cX5_judge 80 = .ok (.aload_n 0, 1) := by decide +kernel
theorem dX5_judge_81 : decode cX5_judge 81 = .ok (.getfield 83, 3) := by decide +kernel
theorem dX5_judge_84 : decode cX5_judge 84 = .ok (.iload_n 1, 1) := by decide +kernel
theorem dX5_judge_85 : decode cX5_judge 85 = .ok (.iaload, 1) := by decide +kernel
theorem dX5_judge_86 : decode cX5_judge 86 = .ok (.if_icmp .ge 37, 3) := by decide +kernel
theorem dX5_judge_89 : decode cX5_judge 89 = .ok (.aload_n 0, 1) := by decide +kernel
theorem dX5_judge_90 : decode cX5_judge 90 = .ok (.iconst 1, 1) := by decide +kernel
theorem dX5_judge_91 : decode cX5_judge 91 = .ok (.invokevirtual 164, 3) := by decide +kernel
theorem dX5_judge_94 : decode cX5_judge 94 = .ok (.ifCond .lt 29, 3) := by decide +kernel
theorem dX5_judge_97 : decode cX5_judge 97 = .ok (.aload_n 0, 1) := by decide +kernel
theorem dX5_judge_98 : decode cX5_judge 98 = .ok (.iload_n 2, 1) := by decide +kernel
theorem dX5_judge_99 : decode cX5_judge 99 = .ok (.iconst 1, 1) := by decide +kernel
theorem dX5_judge_100 : decode cX5_judge 100 = .ok (.invokevirtual 120, 3) := by decide +kernel
theorem dX5_judge_103 : decode cX5_judge 103 = .ok (.aload_n 0, 1) := by decide +kernel
theorem dX5_judge_104 : decode cX5_judge 104 = .ok (.getfield 86, 3) := by decide +kernel
theorem dX5_judge_107 : decode cX5_judge 107 = .ok (.bipush 40, 2) := by decide +kernel
theorem dX5_judge_109 : decode cX5_judge 109 = .ok (.iload_n 1, 1) := by decide +kernel
theorem dX5_judge_110 : decode cX5_judge 110 = .ok (.imul, 1) := by decide +kernel
theorem dX5_judge_111 : decode cX5_judge 111 = .ok (.iload_n 3, 1) := by decide +kernel
theorem dX5_judge_112 : decode cX5_judge 112 = .ok (.iadd, 1) := by decide +kernel
theorem dX5_judge_113 : decode cX5_judge 113 = .ok (.iaload, 1) := by decide +kernel
theorem dX5_judge_114 : decode cX5_judge 114 = .ok (.if_icmp .ne 9, 3) := by decide +kernel
theorem dX5_judge_117 : decode cX5_judge 117 = .ok (.iinc 3 1, 3) := by decide +kernel
theorem dX5_judge_120 : decode cX5_judge 120 = .ok (.goto (-41), 3) := by decide +kernel
theorem dX5_judge_123 : decode cX5_judge 123 = .ok (.aload_n 0, 1) := by decide +kernel
theorem dX5_judge_124 : decode cX5_judge 124 = .ok (.iload_n 3, 1) := by decide +kernel
theorem dX5_judge_125 : decode cX5_judge 125 = .ok (.aload_n 0, 1) := by decide +kernel
theorem dX5_judge_126 : decode cX5_judge 126 = .ok (.getfield 83, 3) := by decide +kernel
theorem dX5_judge_129 : decode cX5_judge 129 = .ok (.iload_n 1, 1) := by decide +kernel
theorem dX5_judge_130 : decode cX5_judge 130 = .ok (.iaload, 1) := by decide +kernel
theorem dX5_judge_131 : decode cX5_judge 131 = .ok (.if_icmp .ne 7, 3) := by decide +kernel
theorem dX5_judge_134 : decode cX5_judge 134 = .ok (.iconst 0, 1) := by decide +kernel
theorem dX5_judge_135 : decode cX5_judge 135 = .ok (.goto 6, 3) := by decide +kernel
theorem dX5_judge_138 : decode cX5_judge 138 = .ok (.iconst 1, 1) := by decide +kernel
theorem dX5_judge_139 : decode cX5_judge 139 = .ok (.iload_n 3, 1) := by decide +kernel
theorem dX5_judge_140 : decode cX5_judge 140 = .ok (.iadd, 1) := by decide +kernel
theorem dX5_judge_141 : decode cX5_judge 141 = .ok (.invokevirtual 179, 3) := by decide +kernel
theorem dX5_judge_144 : decode cX5_judge 144 = .ok (.ireturn, 1) := by decide +kernel
theorem dX5_image_0 : decode cX5_image 0 = .ok (.aload_n 0, 1) := by decide +kernel
theorem dX5_image_1 : decode cX5_image 1 = .ok (.getfield 9, 3) := by decide +kernel
theorem dX5_image_4 : decode cX5_image 4 = .ok (.aload_n 0, 1) := by decide +kernel
theorem dX5_image_5 : decode cX5_image 5 = .ok (.getfield 13, 3) := by decide +kernel
theorem dX5_image_8 : decode cX5_image 8 = .ok (.invokestatic 93, 3) := by decide +kernel
theorem dX5_image_11 : decode cX5_image 11 = .ok (.aload_n 0, 1) := by decide +kernel
theorem dX5_image_12 : decode cX5_image 12 = .ok (.iconst 1, 1) := by decide +kernel
theorem dX5_image_13 : decode cX5_image 13 = .ok (.putfield 348, 3) := by decide +kernel
theorem dX5_image_16 : decode cX5_image 16 = .ok (.iconst 1, 1) := by decide +kernel
theorem dX5_image_17 : decode cX5_image 17 = .ok (.ireturn, 1) := by decide +kernel
theorem dX5_undo_0 : decode cX5_undo 0 = .ok (.aload_n 0, 1) := by decide +kernel
theorem dX5_undo_1 : decode cX5_undo 1 = .ok (.getfield 348, 3) := by decide +kernel
theorem dX5_undo_4 : decode cX5_undo 4 = .ok (.ifCond .ne 10, 3) := by decide +kernel
theorem dX5_undo_7 : decode cX5_undo 7 = .ok (.aload_n 0, 1) := by decide +kernel
theorem dX5_undo_8 : decode cX5_undo 8 = .ok (.ldc 186, 2) := by decide +kernel
theorem dX5_undo_10 : decode cX5_undo 10 = .ok (.invokevirtual 109, 3) := by decide +kernel
theorem dX5_undo_13 : decode cX5_undo 13 = .ok (.ireturn, 1) := by decide +kernel
theorem dX5_undo_14 : decode cX5_undo 14 = .ok (.aload_n 0, 1) := by decide +kernel
theorem dX5_undo_15 : decode cX5_undo 15 = .ok (.getfield 13, 3) := by decide +kernel
theorem dX5_undo_18 : decode cX5_undo 18 = .ok (.aload_n 0, 1) := by decide +kernel
theorem dX5_undo_19 : decode cX5_undo 19 = .ok (.getfield 9, 3) := by decide +kernel
theorem dX5_undo_22 : decode cX5_undo 22 = .ok (.invokestatic 93, 3) := by decide +kernel
theorem dX5_undo_25 : decode cX5_undo 25 = .ok (.aload_n 0, 1) := by decide +kernel
theorem dX5_undo_26 : decode cX5_undo 26 = .ok (.getfield 9, 3) := by decide +kernel
theorem dX5_undo_29 : decode cX5_undo 29 = .ok (.iconst 0, 1) := by decide +kernel
theorem dX5_undo_30 : decode cX5_undo 30 = .ok (.iaload, 1) := by decide +kernel
theorem dX5_undo_31 : decode cX5_undo 31 = .ok (.ireturn, 1) := by decide +kernel
theorem dX5_tear_0 : decode cX5_tear 0 = .ok (.aload_n 0, 1) := by decide +kernel
theorem dX5_tear_1 : decode cX5_tear 1 = .ok (.getfield 348, 3) := by decide +kernel
theorem dX5_tear_4 : decode cX5_tear 4 = .ok (.ifCond .eq 7, 3) := by decide +kernel
theorem dX5_tear_7 : decode cX5_tear 7 = .ok (.iconst 1, 1) := by decide +kernel
theorem dX5_tear_8 : decode cX5_tear 8 = .ok (.goto 4, 3) := by decide +kernel
theorem dX5_tear_11 : decode cX5_tear 11 = .ok (.iconst 0, 1) := by decide +kernel
theorem dX5_tear_12 : decode cX5_tear 12 = .ok (.istore_n 1, 1) := by decide +kernel
theorem dX5_tear_13 : decode cX5_tear 13 = .ok (.aload_n 0, 1) := by decide +kernel
theorem dX5_tear_14 : decode cX5_tear 14 = .ok (.iconst 0, 1) := by decide +kernel
theorem dX5_tear_15 : decode cX5_tear 15 = .ok (.putfield 348, 3) := by decide +kernel
theorem dX5_tear_18 : decode cX5_tear 18 = .ok (.iload_n 1, 1) := by decide +kernel
theorem dX5_tear_19 : decode cX5_tear 19 = .ok (.ireturn, 1) := by decide +kernel
theorem dX5_count_0 : decode cX5_count 0 = .ok (.iconst 0, 1) := by decide +kernel
theorem dX5_count_1 : decode cX5_count 1 = .ok (.istore_n 2, 1) := by decide +kernel
theorem dX5_count_2 : decode cX5_count 2 = .ok (.iload_n 1, 1) := by decide +kernel
theorem dX5_count_3 : decode cX5_count 3 = .ok (.tableswitch 124 0 7 #[45, 52, 59, 65, 71, 77, 82, 89], 45) := by decide +kernel
theorem dX5_count_48 : decode cX5_count 48 = .ok (.aload_n 0, 1) := by decide +kernel
theorem dX5_count_49 : decode cX5_count 49 = .ok (.getfield 9, 3) := by decide +kernel
theorem dX5_count_52 : decode cX5_count 52 = .ok (.iconst 0, 1) := by decide +kernel
theorem dX5_count_53 : decode cX5_count 53 = .ok (.iaload, 1) := by decide +kernel
theorem dX5_count_54 : decode cX5_count 54 = .ok (.ireturn, 1) := by decide +kernel
theorem dX5_count_55 : decode cX5_count 55 = .ok (.aload_n 0, 1) := by decide +kernel
theorem dX5_count_56 : decode cX5_count 56 = .ok (.getfield 9, 3) := by decide +kernel
theorem dX5_count_59 : decode cX5_count 59 = .ok (.iconst 2, 1) := by decide +kernel
theorem dX5_count_60 : decode cX5_count 60 = .ok (.iaload, 1) := by decide +kernel
theorem dX5_count_61 : decode cX5_count 61 = .ok (.ireturn, 1) := by decide +kernel
theorem dX5_count_62 : decode cX5_count 62 = .ok (.aload_n 0, 1) := by decide +kernel
theorem dX5_count_63 : decode cX5_count 63 = .ok (.iconst 2, 1) := by decide +kernel
theorem dX5_count_64 : decode cX5_count 64 = .ok (.invokevirtual 173, 3) := by decide +kernel
theorem dX5_count_67 : decode cX5_count 67 = .ok (.ireturn, 1) := by decide +kernel
theorem dX5_count_68 : decode cX5_count 68 = .ok (.aload_n 0, 1) := by decide +kernel
theorem dX5_count_69 : decode cX5_count 69 = .ok (.iconst 1, 1) := by decide +kernel
theorem dX5_count_70 : decode cX5_count 70 = .ok (.invokevirtual 173, 3) := by decide +kernel
theorem dX5_count_73 : decode cX5_count 73 = .ok (.ireturn, 1) := by decide +kernel
theorem dX5_count_74 : decode cX5_count 74 = .ok (.aload_n 0, 1) := by decide +kernel
theorem dX5_count_75 : decode cX5_count 75 = .ok (.iconst 5, 1) := by decide +kernel
theorem dX5_count_76 : decode cX5_count 76 = .ok (.invokevirtual 173, 3) := by decide +kernel
theorem dX5_count_79 : decode cX5_count 79 = .ok (.ireturn, 1) := by decide +kernel
theorem dX5_count_80 : decode cX5_count 80 = .ok (.aload_n 0, 1) := by decide +kernel
theorem dX5_count_81 : decode cX5_count 81 = .ok (.getfield 260, 3) := by decide +kernel
theorem dX5_count_84 : decode cX5_count 84 = .ok (.ireturn, 1) := by decide +kernel
theorem dX5_count_85 : decode cX5_count 85 = .ok (.aload_n 0, 1) := by decide +kernel
theorem dX5_count_86 : decode cX5_count 86 = .ok (.getfield 9, 3) := by decide +kernel
theorem dX5_count_89 : decode cX5_count 89 = .ok (.iconst 3, 1) := by decide +kernel
theorem dX5_count_90 : decode cX5_count 90 = .ok (.iaload, 1) := by decide +kernel
theorem dX5_count_91 : decode cX5_count 91 = .ok (.ireturn, 1) := by decide +kernel
theorem dX5_count_92 : decode cX5_count 92 = .ok (.iconst 0, 1) := by decide +kernel
theorem dX5_count_93 : decode cX5_count 93 = .ok (.istore_n 3, 1) := by decide +kernel
theorem dX5_count_94 : decode cX5_count 94 = .ok (.iload_n 3, 1) := by decide +kernel
theorem dX5_count_95 : decode cX5_count 95 = .ok (.bipush 10, 2) := by decide +kernel
theorem dX5_count_97 : decode cX5_count 97 = .ok (.if_icmp .ge 28, 3) := by decide +kernel
theorem dX5_count_100 : decode cX5_count 100 = .ok (.iload_n 2, 1) := by decide +kernel
theorem dX5_count_101 : decode cX5_count 101 = .ok (.aload_n 0, 1) := by decide +kernel
theorem dX5_count_102 : decode cX5_count 102 = .ok (.getfield 9, 3) := by decide +kernel
theorem dX5_count_105 : decode cX5_count 105 = .ok (.iconst 4, 1) := by decide +kernel
theorem dX5_count_106 : decode cX5_count 106 = .ok (.iload_n 3, 1) := by decide +kernel
theorem dX5_count_107 : decode cX5_count 107 = .ok (.iadd, 1) := by decide +kernel
theorem dX5_count_108 : decode cX5_count 108 = .ok (.iaload, 1) := by decide +kernel
theorem dX5_count_109 : decode cX5_count 109 = .ok (.ifCond .ge 7, 3) := by decide +kernel
theorem dX5_count_112 : decode cX5_count 112 = .ok (.iconst 0, 1) := by decide +kernel
theorem dX5_count_113 : decode cX5_count 113 = .ok (.goto 4, 3) := by decide +kernel
theorem dX5_count_116 : decode cX5_count 116 = .ok (.iconst 1, 1) := by decide +kernel
theorem dX5_count_117 : decode cX5_count 117 = .ok (.iadd, 1) := by decide +kernel
theorem dX5_count_118 : decode cX5_count 118 = .ok (.istore_n 2, 1) := by decide +kernel
theorem dX5_count_119 : decode cX5_count 119 = .ok (.iinc 3 1, 3) := by decide +kernel
theorem dX5_count_122 : decode cX5_count 122 = .ok (.goto (-28), 3) := by decide +kernel
theorem dX5_count_125 : decode cX5_count 125 = .ok (.iload_n 2, 1) := by decide +kernel
theorem dX5_count_126 : decode cX5_count 126 = .ok (.ireturn, 1) := by decide +kernel
theorem dX5_count_127 : decode cX5_count 127 = .ok (.aload_n 0, 1) := by decide +kernel
theorem dX5_count_128 : decode cX5_count 128 = .ok (.ldc 92, 2) := by decide +kernel
theorem dX5_count_130 : decode cX5_count 130 = .ok (.invokevirtual 109, 3) := by decide +kernel
theorem dX5_count_133 : decode cX5_count 133 = .ok (.ireturn, 1) := by decide +kernel
theorem dX5_status_0 : decode cX5_status 0 = .ok (.iload_n 1, 1) := by decide +kernel
theorem dX5_status_1 : decode cX5_status 1 = .ok (.iconst (-1), 1) := by decide +kernel
theorem dX5_status_2 : decode cX5_status 2 = .ok (.bipush 6, 2) := by decide +kernel
theorem dX5_status_4 : decode cX5_status 4 = .ok (.invokestatic 97, 3) := by decide +kernel
theorem dX5_status_7 : decode cX5_status 7 = .ok (.ifCond .eq 14, 3) := by decide +kernel
theorem dX5_status_10 : decode cX5_status 10 = .ok (.aload_n 0, 1) := by decide +kernel
theorem dX5_status_11 : decode cX5_status 11 = .ok (.getfield 19, 3) := by decide +kernel
theorem dX5_status_14 : decode cX5_status 14 = .ok (.iload_n 1, 1) := by decide +kernel
theorem dX5_status_15 : decode cX5_status 15 = .ok (.iconst 1, 1) := by decide +kernel
theorem dX5_status_16 : decode cX5_status 16 = .ok (.iadd, 1) := by decide +kernel
theorem dX5_status_17 : decode cX5_status 17 = .ok (.iaload, 1) := by decide +kernel
theorem dX5_status_18 : decode cX5_status 18 = .ok (.goto 9, 3) := by decide +kernel
theorem dX5_status_21 : decode cX5_status 21 = .ok (.aload_n 0, 1) := by decide +kernel
theorem dX5_status_22 : decode cX5_status 22 = .ok (.ldc 92, 2) := by decide +kernel
theorem dX5_status_24 : decode cX5_status 24 = .ok (.invokevirtual 109, 3) := by decide +kernel
theorem dX5_status_27 : decode cX5_status 27 = .ok (.ireturn, 1) := by decide +kernel
end
section
theorem dL_law_0 : decode cL_law 0 = .ok (.new 7, 3) := by decide +kernel
theorem dL_law_3 : decode cL_law 3 = .ok (.dup, 1) := by decide +kernel
theorem dL_law_4 : decode cL_law 4 = .ok (.invokespecial 9, 3) := by decide +kernel
theorem dL_law_7 : decode cL_law 7 = .ok (.astore_n 1, 1) := by decide +kernel
theorem dL_law_8 : decode cL_law 8 = .ok (.new 10, 3) := by decide +kernel
theorem dL_law_11 : decode cL_law 11 = .ok (.dup, 1) := by decide +kernel
theorem dL_law_12 : decode cL_law 12 = .ok (.invokespecial 12, 3) := by decide +kernel
theorem dL_law_15 : decode cL_law 15 = .ok (.astore_n 2, 1) := by decide +kernel
theorem dL_law_16 : decode cL_law 16 = .ok (.iconst 0, 1) := by decide +kernel
theorem dL_law_17 : decode cL_law 17 = .ok (.istore_n 3, 1) := by decide +kernel
theorem dL_law_18 : decode cL_law 18 = .ok (.iload_n 3, 1) := by decide +kernel
theorem dL_law_19 : decode cL_law 19 = .ok (.aload_n 0, 1) := by decide +kernel
theorem dL_law_20 : decode cL_law 20 = .ok (.arraylength, 1) := by decide +kernel
theorem dL_law_21 : decode cL_law 21 = .ok (.bipush 6, 2) := by decide +kernel
theorem dL_law_23 : decode cL_law 23 = .ok (.isub, 1) := by decide +kernel
theorem dL_law_24 : decode cL_law 24 = .ok (.if_icmp .gt 1432, 3) := by decide +kernel
theorem dL_law_27 : decode cL_law 27 = .ok (.aload_n 0, 1) := by decide +kernel
theorem dL_law_28 : decode cL_law 28 = .ok (.iload_n 3, 1) := by decide +kernel
theorem dL_law_29 : decode cL_law 29 = .ok (.iaload, 1) := by decide +kernel
theorem dL_law_30 : decode cL_law 30 = .ok (.bipush 63, 2) := by decide +kernel
theorem dL_law_32 : decode cL_law 32 = .ok (.iand, 1) := by decide +kernel
theorem dL_law_33 : decode cL_law 33 = .ok (.tableswitch 1417 0 45 #[199, 222, 255, 298, 321, 344, 367, 400, 423, 446, 479, 502, 525, 538, 551, 584, 617, 640, 663, 686, 709, 732, 765, 798, 831, 864, 897, 920, 933, 956, 979, 1002, 1035, 1048, 1061, 1094, 1127, 1170, 1213, 1276, 1299, 1332, 1345, 1358, 1371, 1394], 199) := by decide +kernel
theorem dL_law_232 : decode cL_law 232 = .ok (.aload_n 1, 1) := by decide +kernel
theorem dL_law_233 : decode cL_law 233 = .ok (.aload_n 0, 1) := by decide +kernel
theorem dL_law_234 : decode cL_law 234 = .ok (.iload_n 3, 1) := by decide +kernel
theorem dL_law_235 : decode cL_law 235 = .ok (.iconst 1, 1) := by decide +kernel
theorem dL_law_236 : decode cL_law 236 = .ok (.iadd, 1) := by decide +kernel
theorem dL_law_237 : decode cL_law 237 = .ok (.iaload, 1) := by decide +kernel
theorem dL_law_238 : decode cL_law 238 = .ok (.invokevirtual 13, 3) := by decide +kernel
theorem dL_law_241 : decode cL_law 241 = .ok (.aload_n 2, 1) := by decide +kernel
theorem dL_law_242 : decode cL_law 242 = .ok (.aload_n 0, 1) := by decide +kernel
theorem dL_law_243 : decode cL_law 243 = .ok (.iload_n 3, 1) := by decide +kernel
theorem dL_law_244 : decode cL_law 244 = .ok (.iconst 1, 1) := by decide +kernel
theorem dL_law_245 : decode cL_law 245 = .ok (.iadd, 1) := by decide +kernel
theorem dL_law_246 : decode cL_law 246 = .ok (.iaload, 1) := by decide +kernel
theorem dL_law_247 : decode cL_law 247 = .ok (.invokevirtual 17, 3) := by decide +kernel
theorem dL_law_250 : decode cL_law 250 = .ok (.if_icmp .eq 1200, 3) := by decide +kernel
theorem dL_law_253 : decode cL_law 253 = .ok (.iconst 0, 1) := by decide +kernel
theorem dL_law_254 : decode cL_law 254 = .ok (.ireturn, 1) := by decide +kernel
theorem dL_law_255 : decode cL_law 255 = .ok (.aload_n 1, 1) := by decide +kernel
theorem dL_law_256 : decode cL_law 256 = .ok (.aload_n 0, 1) := by decide +kernel
theorem dL_law_257 : decode cL_law 257 = .ok (.iload_n 3, 1) := by decide +kernel
theorem dL_law_258 : decode cL_law 258 = .ok (.iconst 1, 1) := by decide +kernel
theorem dL_law_259 : decode cL_law 259 = .ok (.iadd, 1) := by decide +kernel
theorem dL_law_260 : decode cL_law 260 = .ok (.iaload, 1) := by decide +kernel
theorem dL_law_261 : decode cL_law 261 = .ok (.aload_n 0, 1) := by decide +kernel
theorem dL_law_262 : decode cL_law 262 = .ok (.iload_n 3, 1) := by decide +kernel
theorem dL_law_263 : decode cL_law 263 = .ok (.iconst 2, 1) := by decide +kernel
theorem dL_law_264 : decode cL_law 264 = .ok (.iadd, 1) := by decide +kernel
theorem dL_law_265 : decode cL_law 265 = .ok (.iaload, 1) := by decide +kernel
theorem dL_law_266 : decode cL_law 266 = .ok (.invokevirtual 18, 3) := by decide +kernel
theorem dL_law_269 : decode cL_law 269 = .ok (.aload_n 2, 1) := by decide +kernel
theorem dL_law_270 : decode cL_law 270 = .ok (.aload_n 0, 1) := by decide +kernel
theorem dL_law_271 : decode cL_law 271 = .ok (.iload_n 3, 1) := by decide +kernel
theorem dL_law_272 : decode cL_law 272 = .ok (.iconst 1, 1) := by decide +kernel
theorem dL_law_273 : decode cL_law 273 = .ok (.iadd, 1) := by decide +kernel
theorem dL_law_274 : decode cL_law 274 = .ok (.iaload, 1) := by decide +kernel
theorem dL_law_275 : decode cL_law 275 = .ok (.aload_n 0, 1) := by decide +kernel
theorem dL_law_276 : decode cL_law 276 = .ok (.iload_n 3, 1) := by decide +kernel
theorem dL_law_277 : decode cL_law 277 = .ok (.iconst 2, 1) := by decide +kernel
theorem dL_law_278 : decode cL_law 278 = .ok (.iadd, 1) := by decide +kernel
theorem dL_law_279 : decode cL_law 279 = .ok (.iaload, 1) := by decide +kernel
theorem dL_law_280 : decode cL_law 280 = .ok (.invokevirtual 22, 3) := by decide +kernel
theorem dL_law_283 : decode cL_law 283 = .ok (.if_icmp .eq 1167, 3) := by decide +kernel
theorem dL_law_286 : decode cL_law 286 = .ok (.iconst 0, 1) := by decide +kernel
theorem dL_law_287 : decode cL_law 287 = .ok (.ireturn, 1) := by decide +kernel
theorem dL_law_288 : decode cL_law 288 = .ok (.aload_n 1, 1) := by decide +kernel
theorem dL_law_289 : decode cL_law 289 = .ok (.aload_n 0, 1) := by decide +kernel
theorem dL_law_290 : decode cL_law 290 = .ok (.iload_n 3, 1) := by decide +kernel
theorem dL_law_291 : decode cL_law 291 = .ok (.iconst 1, 1) := by decide +kernel
theorem dL_law_292 : decode cL_law 292 = .ok (.iadd, 1) := by decide +kernel
theorem dL_law_293 : decode cL_law 293 = .ok (.iaload, 1) := by decide +kernel
theorem dL_law_294 : decode cL_law 294 = .ok (.aload_n 0, 1) := by decide +kernel
theorem dL_law_295 : decode cL_law 295 = .ok (.iload_n 3, 1) := by decide +kernel
theorem dL_law_296 : decode cL_law 296 = .ok (.iconst 2, 1) := by decide +kernel
theorem dL_law_297 : decode cL_law 297 = .ok (.iadd, 1) := by decide +kernel
theorem dL_law_298 : decode cL_law 298 = .ok (.iaload, 1) := by decide +kernel
theorem dL_law_299 : decode cL_law 299 = .ok (.aload_n 0, 1) := by decide +kernel
theorem dL_law_300 : decode cL_law 300 = .ok (.iload_n 3, 1) := by decide +kernel
theorem dL_law_301 : decode cL_law 301 = .ok (.iconst 3, 1) := by decide +kernel
theorem dL_law_302 : decode cL_law 302 = .ok (.iadd, 1) := by decide +kernel
theorem dL_law_303 : decode cL_law 303 = .ok (.iaload, 1) := by decide +kernel
theorem dL_law_304 : decode cL_law 304 = .ok (.invokevirtual 23, 3) := by decide +kernel
theorem dL_law_307 : decode cL_law 307 = .ok (.aload_n 2, 1) := by decide +kernel
theorem dL_law_308 : decode cL_law 308 = .ok (.aload_n 0, 1) := by decide +kernel
theorem dL_law_309 : decode cL_law 309 = .ok (.iload_n 3, 1) := by decide +kernel
theorem dL_law_310 : decode cL_law 310 = .ok (.iconst 1, 1) := by decide +kernel
theorem dL_law_311 : decode cL_law 311 = .ok (.iadd, 1) := by decide +kernel
theorem dL_law_312 : decode cL_law 312 = .ok (.iaload, 1) := by decide +kernel
theorem dL_law_313 : decode cL_law 313 = .ok (.aload_n 0, 1) := by decide +kernel
theorem dL_law_314 : decode cL_law 314 = .ok (.iload_n 3, 1) := by decide +kernel
theorem dL_law_315 : decode cL_law 315 = .ok (.iconst 2, 1) := by decide +kernel
theorem dL_law_316 : decode cL_law 316 = .ok (.iadd, 1) := by decide +kernel
theorem dL_law_317 : decode cL_law 317 = .ok (.iaload, 1) := by decide +kernel
theorem dL_law_318 : decode cL_law 318 = .ok (.aload_n 0, 1) := by decide +kernel
theorem dL_law_319 : decode cL_law 319 = .ok (.iload_n 3, 1) := by decide +kernel
theorem dL_law_320 : decode cL_law 320 = .ok (.iconst 3, 1) := by decide +kernel
theorem dL_law_321 : decode cL_law 321 = .ok (.iadd, 1) := by decide +kernel
theorem dL_law_322 : decode cL_law 322 = .ok (.iaload, 1) := by decide +kernel
theorem dL_law_323 : decode cL_law 323 = .ok (.invokevirtual 27, 3) := by decide +kernel
theorem dL_law_326 : decode cL_law 326 = .ok (.if_icmp .eq 1124, 3) := by decide +kernel
theorem dL_law_329 : decode cL_law 329 = .ok (.iconst 0, 1) := by decide +kernel
theorem dL_law_330 : decode cL_law 330 = .ok (.ireturn, 1) := by decide +kernel
theorem dL_law_331 : decode cL_law 331 = .ok (.aload_n 1, 1) := by decide +kernel
theorem dL_law_332 : decode cL_law 332 = .ok (.aload_n 0, 1) := by decide +kernel
theorem dL_law_333 : decode cL_law 333 = .ok (.iload_n 3, 1) := by decide +kernel
theorem dL_law_334 : decode cL_law 334 = .ok (.iconst 1, 1) := by decide +kernel
theorem dL_law_335 : decode cL_law 335 = .ok (.iadd, 1) := by decide +kernel
theorem dL_law_336 : decode cL_law 336 = .ok (.iaload, 1) := by decide +kernel
theorem dL_law_337 : decode cL_law 337 = .ok (.invokevirtual 28, 3) := by decide +kernel
theorem dL_law_340 : decode cL_law 340 = .ok (.aload_n 2, 1) := by decide +kernel
theorem dL_law_341 : decode cL_law 341 = .ok (.aload_n 0, 1) := by decide +kernel
theorem dL_law_342 : decode cL_law 342 = .ok (.iload_n 3, 1) := by decide +kernel
theorem dL_law_343 : decode cL_law 343 = .ok (.iconst 1, 1) := by decide +kernel
theorem dL_law_344 : decode cL_law 344 = .ok (.iadd, 1) := by decide +kernel
theorem dL_law_345 : decode cL_law 345 = .ok (.iaload, 1) := by decide +kernel
theorem dL_law_346 : decode cL_law 346 = .ok (.invokevirtual 31, 3) := by decide +kernel
theorem dL_law_349 : decode cL_law 349 = .ok (.if_icmp .eq 1101, 3) := by decide +kernel
theorem dL_law_352 : decode cL_law 352 = .ok (.iconst 0, 1) := by decide +kernel
theorem dL_law_353 : decode cL_law 353 = .ok (.ireturn, 1) := by decide +kernel
theorem dL_law_354 : decode cL_law 354 = .ok (.aload_n 1, 1) := by decide +kernel
theorem dL_law_355 : decode cL_law 355 = .ok (.aload_n 0, 1) := by decide +kernel
theorem dL_law_356 : decode cL_law 356 = .ok (.iload_n 3, 1) := by decide +kernel
theorem dL_law_357 : decode cL_law 357 = .ok (.iconst 1, 1) := by decide +kernel
theorem dL_law_358 : decode cL_law 358 = .ok (.iadd, 1) := by decide +kernel
theorem dL_law_359 : decode cL_law 359 = .ok (.iaload, 1) := by decide +kernel
theorem dL_law_360 : decode cL_law 360 = .ok (.invokevirtual 32, 3) := by decide +kernel
theorem dL_law_363 : decode cL_law 363 = .ok (.aload_n 2, 1) := by decide +kernel
theorem dL_law_364 : decode cL_law 364 = .ok (.aload_n 0, 1) := by decide +kernel
theorem dL_law_365 : decode cL_law 365 = .ok (.iload_n 3, 1) := by decide +kernel
theorem dL_law_366 : decode cL_law 366 = .ok (.iconst 1, 1) := by decide +kernel
theorem dL_law_367 : decode cL_law 367 = .ok (.iadd, 1) := by decide +kernel
theorem dL_law_368 : decode cL_law 368 = .ok (.iaload, 1) := by decide +kernel
theorem dL_law_369 : decode cL_law 369 = .ok (.invokevirtual 35, 3) := by decide +kernel
theorem dL_law_372 : decode cL_law 372 = .ok (.if_icmp .eq 1078, 3) := by decide +kernel
theorem dL_law_375 : decode cL_law 375 = .ok (.iconst 0, 1) := by decide +kernel
theorem dL_law_376 : decode cL_law 376 = .ok (.ireturn, 1) := by decide +kernel
theorem dL_law_377 : decode cL_law 377 = .ok (.aload_n 1, 1) := by decide +kernel
theorem dL_law_378 : decode cL_law 378 = .ok (.aload_n 0, 1) := by decide +kernel
theorem dL_law_379 : decode cL_law 379 = .ok (.iload_n 3, 1) := by decide +kernel
theorem dL_law_380 : decode cL_law 380 = .ok (.iconst 1, 1) := by decide +kernel
theorem dL_law_381 : decode cL_law 381 = .ok (.iadd, 1) := by decide +kernel
theorem dL_law_382 : decode cL_law 382 = .ok (.iaload, 1) := by decide +kernel
theorem dL_law_383 : decode cL_law 383 = .ok (.invokevirtual 36, 3) := by decide +kernel
theorem dL_law_386 : decode cL_law 386 = .ok (.aload_n 2, 1) := by decide +kernel
theorem dL_law_387 : decode cL_law 387 = .ok (.aload_n 0, 1) := by decide +kernel
theorem dL_law_388 : decode cL_law 388 = .ok (.iload_n 3, 1) := by decide +kernel
theorem dL_law_389 : decode cL_law 389 = .ok (.iconst 1, 1) := by decide +kernel
theorem dL_law_390 : decode cL_law 390 = .ok (.iadd, 1) := by decide +kernel
theorem dL_law_391 : decode cL_law 391 = .ok (.iaload, 1) := by decide +kernel
theorem dL_law_392 : decode cL_law 392 = .ok (.invokevirtual 39, 3) := by decide +kernel
theorem dL_law_395 : decode cL_law 395 = .ok (.if_icmp .eq 1055, 3) := by decide +kernel
theorem dL_law_398 : decode cL_law 398 = .ok (.iconst 0, 1) := by decide +kernel
theorem dL_law_399 : decode cL_law 399 = .ok (.ireturn, 1) := by decide +kernel
theorem dL_law_400 : decode cL_law 400 = .ok (.aload_n 1, 1) := by decide +kernel
theorem dL_law_401 : decode cL_law 401 = .ok (.aload_n 0, 1) := by decide +kernel
theorem dL_law_402 : decode cL_law 402 = .ok (.iload_n 3, 1) := by decide +kernel
theorem dL_law_403 : decode cL_law 403 = .ok (.iconst 1, 1) := by decide +kernel
theorem dL_law_404 : decode cL_law 404 = .ok (.iadd, 1) := by decide +kernel
theorem dL_law_405 : decode cL_law 405 = .ok (.iaload, 1) := by decide +kernel
theorem dL_law_406 : decode cL_law 406 = .ok (.aload_n 0, 1) := by decide +kernel
theorem dL_law_407 : decode cL_law 407 = .ok (.iload_n 3, 1) := by decide +kernel
theorem dL_law_408 : decode cL_law 408 = .ok (.iconst 2, 1) := by decide +kernel
theorem dL_law_409 : decode cL_law 409 = .ok (.iadd, 1) := by decide +kernel
theorem dL_law_410 : decode cL_law 410 = .ok (.iaload, 1) := by decide +kernel
theorem dL_law_411 : decode cL_law 411 = .ok (.invokevirtual 40, 3) := by decide +kernel
theorem dL_law_414 : decode cL_law 414 = .ok (.aload_n 2, 1) := by decide +kernel
theorem dL_law_415 : decode cL_law 415 = .ok (.aload_n 0, 1) := by decide +kernel
theorem dL_law_416 : decode cL_law 416 = .ok (.iload_n 3, 1) := by decide +kernel
theorem dL_law_417 : decode cL_law 417 = .ok (.iconst 1, 1) := by decide +kernel
theorem dL_law_418 : decode cL_law 418 = .ok (.iadd, 1) := by decide +kernel
theorem dL_law_419 : decode cL_law 419 = .ok (.iaload, 1) := by decide +kernel
theorem dL_law_420 : decode cL_law 420 = .ok (.aload_n 0, 1) := by decide +kernel
theorem dL_law_421 : decode cL_law 421 = .ok (.iload_n 3, 1) := by decide +kernel
theorem dL_law_422 : decode cL_law 422 = .ok (.iconst 2, 1) := by decide +kernel
theorem dL_law_423 : decode cL_law 423 = .ok (.iadd, 1) := by decide +kernel
theorem dL_law_424 : decode cL_law 424 = .ok (.iaload, 1) := by decide +kernel
theorem dL_law_425 : decode cL_law 425 = .ok (.invokevirtual 43, 3) := by decide +kernel
theorem dL_law_428 : decode cL_law 428 = .ok (.if_icmp .eq 1022, 3) := by decide +kernel
theorem dL_law_431 : decode cL_law 431 = .ok (.iconst 0, 1) := by decide +kernel
theorem dL_law_432 : decode cL_law 432 = .ok (.ireturn, 1) := by decide +kernel
theorem dL_law_433 : decode cL_law 433 = .ok (.aload_n 1, 1) := by decide +kernel
theorem dL_law_434 : decode cL_law 434 = .ok (.aload_n 0, 1) := by decide +kernel
theorem dL_law_435 : decode cL_law 435 = .ok (.iload_n 3, 1) := by decide +kernel
theorem dL_law_436 : decode cL_law 436 = .ok (.iconst 1, 1) := by decide +kernel
theorem dL_law_437 : decode cL_law 437 = .ok (.iadd, 1) := by decide +kernel
theorem dL_law_438 : decode cL_law 438 = .ok (.iaload, 1) := by decide +kernel
theorem dL_law_439 : decode cL_law 439 = .ok (.invokevirtual 44, 3) := by decide +kernel
theorem dL_law_442 : decode cL_law 442 = .ok (.aload_n 2, 1) := by decide +kernel
theorem dL_law_443 : decode cL_law 443 = .ok (.aload_n 0, 1) := by decide +kernel
theorem dL_law_444 : decode cL_law 444 = .ok (.iload_n 3, 1) := by decide +kernel
theorem dL_law_445 : decode cL_law 445 = .ok (.iconst 1, 1) := by decide +kernel
theorem dL_law_446 : decode cL_law 446 = .ok (.iadd, 1) := by decide +kernel
theorem dL_law_447 : decode cL_law 447 = .ok (.iaload, 1) := by decide +kernel
theorem dL_law_448 : decode cL_law 448 = .ok (.invokevirtual 47, 3) := by decide +kernel
theorem dL_law_451 : decode cL_law 451 = .ok (.if_icmp .eq 999, 3) := by decide +kernel
theorem dL_law_454 : decode cL_law 454 = .ok (.iconst 0, 1) := by decide +kernel
theorem dL_law_455 : decode cL_law 455 = .ok (.ireturn, 1) := by decide +kernel
theorem dL_law_456 : decode cL_law 456 = .ok (.aload_n 1, 1) := by decide +kernel
theorem dL_law_457 : decode cL_law 457 = .ok (.aload_n 0, 1) := by decide +kernel
theorem dL_law_458 : decode cL_law 458 = .ok (.iload_n 3, 1) := by decide +kernel
theorem dL_law_459 : decode cL_law 459 = .ok (.iconst 1, 1) := by decide +kernel
theorem dL_law_460 : decode cL_law 460 = .ok (.iadd, 1) := by decide +kernel
theorem dL_law_461 : decode cL_law 461 = .ok (.iaload, 1) := by decide +kernel
theorem dL_law_462 : decode cL_law 462 = .ok (.invokevirtual 48, 3) := by decide +kernel
theorem dL_law_465 : decode cL_law 465 = .ok (.aload_n 2, 1) := by decide +kernel
theorem dL_law_466 : decode cL_law 466 = .ok (.aload_n 0, 1) := by decide +kernel
theorem dL_law_467 : decode cL_law 467 = .ok (.iload_n 3, 1) := by decide +kernel
theorem dL_law_468 : decode cL_law 468 = .ok (.iconst 1, 1) := by decide +kernel
theorem dL_law_469 : decode cL_law 469 = .ok (.iadd, 1) := by decide +kernel
theorem dL_law_470 : decode cL_law 470 = .ok (.iaload, 1) := by decide +kernel
theorem dL_law_471 : decode cL_law 471 = .ok (.invokevirtual 51, 3) := by decide +kernel
theorem dL_law_474 : decode cL_law 474 = .ok (.if_icmp .eq 976, 3) := by decide +kernel
theorem dL_law_477 : decode cL_law 477 = .ok (.iconst 0, 1) := by decide +kernel
theorem dL_law_478 : decode cL_law 478 = .ok (.ireturn, 1) := by decide +kernel
theorem dL_law_479 : decode cL_law 479 = .ok (.aload_n 1, 1) := by decide +kernel
theorem dL_law_480 : decode cL_law 480 = .ok (.aload_n 0, 1) := by decide +kernel
theorem dL_law_481 : decode cL_law 481 = .ok (.iload_n 3, 1) := by decide +kernel
theorem dL_law_482 : decode cL_law 482 = .ok (.iconst 1, 1) := by decide +kernel
theorem dL_law_483 : decode cL_law 483 = .ok (.iadd, 1) := by decide +kernel
theorem dL_law_484 : decode cL_law 484 = .ok (.iaload, 1) := by decide +kernel
theorem dL_law_485 : decode cL_law 485 = .ok (.aload_n 0, 1) := by decide +kernel
theorem dL_law_486 : decode cL_law 486 = .ok (.iload_n 3, 1) := by decide +kernel
theorem dL_law_487 : decode cL_law 487 = .ok (.iconst 2, 1) := by decide +kernel
theorem dL_law_488 : decode cL_law 488 = .ok (.iadd, 1) := by decide +kernel
theorem dL_law_489 : decode cL_law 489 = .ok (.iaload, 1) := by decide +kernel
theorem dL_law_490 : decode cL_law 490 = .ok (.invokevirtual 52, 3) := by decide +kernel
theorem dL_law_493 : decode cL_law 493 = .ok (.aload_n 2, 1) := by decide +kernel
theorem dL_law_494 : decode cL_law 494 = .ok (.aload_n 0, 1) := by decide +kernel
theorem dL_law_495 : decode cL_law 495 = .ok (.iload_n 3, 1) := by decide +kernel
theorem dL_law_496 : decode cL_law 496 = .ok (.iconst 1, 1) := by decide +kernel
theorem dL_law_497 : decode cL_law 497 = .ok (.iadd, 1) := by decide +kernel
theorem dL_law_498 : decode cL_law 498 = .ok (.iaload, 1) := by decide +kernel
theorem dL_law_499 : decode cL_law 499 = .ok (.aload_n 0, 1) := by decide +kernel
theorem dL_law_500 : decode cL_law 500 = .ok (.iload_n 3, 1) := by decide +kernel
theorem dL_law_501 : decode cL_law 501 = .ok (.iconst 2, 1) := by decide +kernel
theorem dL_law_502 : decode cL_law 502 = .ok (.iadd, 1) := by decide +kernel
theorem dL_law_503 : decode cL_law 503 = .ok (.iaload, 1) := by decide +kernel
theorem dL_law_504 : decode cL_law 504 = .ok (.invokevirtual 55, 3) := by decide +kernel
theorem dL_law_507 : decode cL_law 507 = .ok (.if_icmp .eq 943, 3) := by decide +kernel
theorem dL_law_510 : decode cL_law 510 = .ok (.iconst 0, 1) := by decide +kernel
theorem dL_law_511 : decode cL_law 511 = .ok (.ireturn, 1) := by decide +kernel
theorem dL_law_512 : decode cL_law 512 = .ok (.aload_n 1, 1) := by decide +kernel
theorem dL_law_513 : decode cL_law 513 = .ok (.aload_n 0, 1) := by decide +kernel
theorem dL_law_514 : decode cL_law 514 = .ok (.iload_n 3, 1) := by decide +kernel
theorem dL_law_515 : decode cL_law 515 = .ok (.iconst 1, 1) := by decide +kernel
theorem dL_law_516 : decode cL_law 516 = .ok (.iadd, 1) := by decide +kernel
theorem dL_law_517 : decode cL_law 517 = .ok (.iaload, 1) := by decide +kernel
theorem dL_law_518 : decode cL_law 518 = .ok (.invokevirtual 56, 3) := by decide +kernel
theorem dL_law_521 : decode cL_law 521 = .ok (.aload_n 2, 1) := by decide +kernel
theorem dL_law_522 : decode cL_law 522 = .ok (.aload_n 0, 1) := by decide +kernel
theorem dL_law_523 : decode cL_law 523 = .ok (.iload_n 3, 1) := by decide +kernel
theorem dL_law_524 : decode cL_law 524 = .ok (.iconst 1, 1) := by decide +kernel
theorem dL_law_525 : decode cL_law 525 = .ok (.iadd, 1) := by decide +kernel
theorem dL_law_526 : decode cL_law 526 = .ok (.iaload, 1) := by decide +kernel
theorem dL_law_527 : decode cL_law 527 = .ok (.invokevirtual 59, 3) := by decide +kernel
theorem dL_law_530 : decode cL_law 530 = .ok (.if_icmp .eq 920, 3) := by decide +kernel
theorem dL_law_533 : decode cL_law 533 = .ok (.iconst 0, 1) := by decide +kernel
theorem dL_law_534 : decode cL_law 534 = .ok (.ireturn, 1) := by decide +kernel
theorem dL_law_535 : decode cL_law 535 = .ok (.aload_n 1, 1) := by decide +kernel
theorem dL_law_536 : decode cL_law 536 = .ok (.aload_n 0, 1) := by decide +kernel
theorem dL_law_537 : decode cL_law 537 = .ok (.iload_n 3, 1) := by decide +kernel
theorem dL_law_538 : decode cL_law 538 = .ok (.iconst 1, 1) := by decide +kernel
theorem dL_law_539 : decode cL_law 539 = .ok (.iadd, 1) := by decide +kernel
theorem dL_law_540 : decode cL_law 540 = .ok (.iaload, 1) := by decide +kernel
theorem dL_law_541 : decode cL_law 541 = .ok (.invokevirtual 60, 3) := by decide +kernel
theorem dL_law_544 : decode cL_law 544 = .ok (.aload_n 2, 1) := by decide +kernel
theorem dL_law_545 : decode cL_law 545 = .ok (.aload_n 0, 1) := by decide +kernel
theorem dL_law_546 : decode cL_law 546 = .ok (.iload_n 3, 1) := by decide +kernel
theorem dL_law_547 : decode cL_law 547 = .ok (.iconst 1, 1) := by decide +kernel
theorem dL_law_548 : decode cL_law 548 = .ok (.iadd, 1) := by decide +kernel
theorem dL_law_549 : decode cL_law 549 = .ok (.iaload, 1) := by decide +kernel
theorem dL_law_550 : decode cL_law 550 = .ok (.invokevirtual 63, 3) := by decide +kernel
theorem dL_law_553 : decode cL_law 553 = .ok (.if_icmp .eq 897, 3) := by decide +kernel
theorem dL_law_556 : decode cL_law 556 = .ok (.iconst 0, 1) := by decide +kernel
theorem dL_law_557 : decode cL_law 557 = .ok (.ireturn, 1) := by decide +kernel
theorem dL_law_558 : decode cL_law 558 = .ok (.aload_n 1, 1) := by decide +kernel
theorem dL_law_559 : decode cL_law 559 = .ok (.invokevirtual 64, 3) := by decide +kernel
theorem dL_law_562 : decode cL_law 562 = .ok (.aload_n 2, 1) := by decide +kernel
theorem dL_law_563 : decode cL_law 563 = .ok (.invokevirtual 68, 3) := by decide +kernel
theorem dL_law_566 : decode cL_law 566 = .ok (.if_icmp .eq 884, 3) := by decide +kernel
theorem dL_law_569 : decode cL_law 569 = .ok (.iconst 0, 1) := by decide +kernel
theorem dL_law_570 : decode cL_law 570 = .ok (.ireturn, 1) := by decide +kernel
theorem dL_law_571 : decode cL_law 571 = .ok (.aload_n 1, 1) := by decide +kernel
theorem dL_law_572 : decode cL_law 572 = .ok (.invokevirtual 69, 3) := by decide +kernel
theorem dL_law_575 : decode cL_law 575 = .ok (.aload_n 2, 1) := by decide +kernel
theorem dL_law_576 : decode cL_law 576 = .ok (.invokevirtual 72, 3) := by decide +kernel
theorem dL_law_579 : decode cL_law 579 = .ok (.if_icmp .eq 871, 3) := by decide +kernel
theorem dL_law_582 : decode cL_law 582 = .ok (.iconst 0, 1) := by decide +kernel
theorem dL_law_583 : decode cL_law 583 = .ok (.ireturn, 1) := by decide +kernel
theorem dL_law_584 : decode cL_law 584 = .ok (.aload_n 1, 1) := by decide +kernel
theorem dL_law_585 : decode cL_law 585 = .ok (.aload_n 0, 1) := by decide +kernel
theorem dL_law_586 : decode cL_law 586 = .ok (.iload_n 3, 1) := by decide +kernel
theorem dL_law_587 : decode cL_law 587 = .ok (.iconst 1, 1) := by decide +kernel
theorem dL_law_588 : decode cL_law 588 = .ok (.iadd, 1) := by decide +kernel
theorem dL_law_589 : decode cL_law 589 = .ok (.iaload, 1) := by decide +kernel
theorem dL_law_590 : decode cL_law 590 = .ok (.aload_n 0, 1) := by decide +kernel
theorem dL_law_591 : decode cL_law 591 = .ok (.iload_n 3, 1) := by decide +kernel
theorem dL_law_592 : decode cL_law 592 = .ok (.iconst 2, 1) := by decide +kernel
theorem dL_law_593 : decode cL_law 593 = .ok (.iadd, 1) := by decide +kernel
theorem dL_law_594 : decode cL_law 594 = .ok (.iaload, 1) := by decide +kernel
theorem dL_law_595 : decode cL_law 595 = .ok (.invokevirtual 73, 3) := by decide +kernel
theorem dL_law_598 : decode cL_law 598 = .ok (.aload_n 2, 1) := by decide +kernel
theorem dL_law_599 : decode cL_law 599 = .ok (.aload_n 0, 1) := by decide +kernel
theorem dL_law_600 : decode cL_law 600 = .ok (.iload_n 3, 1) := by decide +kernel
theorem dL_law_601 : decode cL_law 601 = .ok (.iconst 1, 1) := by decide +kernel
theorem dL_law_602 : decode cL_law 602 = .ok (.iadd, 1) := by decide +kernel
theorem dL_law_603 : decode cL_law 603 = .ok (.iaload, 1) := by decide +kernel
theorem dL_law_604 : decode cL_law 604 = .ok (.aload_n 0, 1) := by decide +kernel
theorem dL_law_605 : decode cL_law 605 = .ok (.iload_n 3, 1) := by decide +kernel
theorem dL_law_606 : decode cL_law 606 = .ok (.iconst 2, 1) := by decide +kernel
theorem dL_law_607 : decode cL_law 607 = .ok (.iadd, 1) := by decide +kernel
theorem dL_law_608 : decode cL_law 608 = .ok (.iaload, 1) := by decide +kernel
theorem dL_law_609 : decode cL_law 609 = .ok (.invokevirtual 76, 3) := by decide +kernel
theorem dL_law_612 : decode cL_law 612 = .ok (.if_icmp .eq 838, 3) := by decide +kernel
theorem dL_law_615 : decode cL_law 615 = .ok (.iconst 0, 1) := by decide +kernel
theorem dL_law_616 : decode cL_law 616 = .ok (.ireturn, 1) := by decide +kernel
theorem dL_law_617 : decode cL_law 617 = .ok (.aload_n 1, 1) := by decide +kernel
theorem dL_law_618 : decode cL_law 618 = .ok (.aload_n 0, 1) := by decide +kernel
theorem dL_law_619 : decode cL_law 619 = .ok (.iload_n 3, 1) := by decide +kernel
theorem dL_law_620 : decode cL_law 620 = .ok (.iconst 1, 1) := by decide +kernel
theorem dL_law_621 : decode cL_law 621 = .ok (.iadd, 1) := by decide +kernel
theorem dL_law_622 : decode cL_law 622 = .ok (.iaload, 1) := by decide +kernel
theorem dL_law_623 : decode cL_law 623 = .ok (.aload_n 0, 1) := by decide +kernel
theorem dL_law_624 : decode cL_law 624 = .ok (.iload_n 3, 1) := by decide +kernel
theorem dL_law_625 : decode cL_law 625 = .ok (.iconst 2, 1) := by decide +kernel
theorem dL_law_626 : decode cL_law 626 = .ok (.iadd, 1) := by decide +kernel
theorem dL_law_627 : decode cL_law 627 = .ok (.iaload, 1) := by decide +kernel
theorem dL_law_628 : decode cL_law 628 = .ok (.invokevirtual 77, 3) := by decide +kernel
theorem dL_law_631 : decode cL_law 631 = .ok (.aload_n 2, 1) := by decide +kernel
theorem dL_law_632 : decode cL_law 632 = .ok (.aload_n 0, 1) := by decide +kernel
theorem dL_law_633 : decode cL_law 633 = .ok (.iload_n 3, 1) := by decide +kernel
theorem dL_law_634 : decode cL_law 634 = .ok (.iconst 1, 1) := by decide +kernel
theorem dL_law_635 : decode cL_law 635 = .ok (.iadd, 1) := by decide +kernel
theorem dL_law_636 : decode cL_law 636 = .ok (.iaload, 1) := by decide +kernel
theorem dL_law_637 : decode cL_law 637 = .ok (.aload_n 0, 1) := by decide +kernel
theorem dL_law_638 : decode cL_law 638 = .ok (.iload_n 3, 1) := by decide +kernel
theorem dL_law_639 : decode cL_law 639 = .ok (.iconst 2, 1) := by decide +kernel
theorem dL_law_640 : decode cL_law 640 = .ok (.iadd, 1) := by decide +kernel
theorem dL_law_641 : decode cL_law 641 = .ok (.iaload, 1) := by decide +kernel
theorem dL_law_642 : decode cL_law 642 = .ok (.invokevirtual 80, 3) := by decide +kernel
theorem dL_law_645 : decode cL_law 645 = .ok (.if_icmp .eq 805, 3) := by decide +kernel
theorem dL_law_648 : decode cL_law 648 = .ok (.iconst 0, 1) := by decide +kernel
theorem dL_law_649 : decode cL_law 649 = .ok (.ireturn, 1) := by decide +kernel
theorem dL_law_650 : decode cL_law 650 = .ok (.aload_n 1, 1) := by decide +kernel
theorem dL_law_651 : decode cL_law 651 = .ok (.aload_n 0, 1) := by decide +kernel
theorem dL_law_652 : decode cL_law 652 = .ok (.iload_n 3, 1) := by decide +kernel
theorem dL_law_653 : decode cL_law 653 = .ok (.iconst 1, 1) := by decide +kernel
theorem dL_law_654 : decode cL_law 654 = .ok (.iadd, 1) := by decide +kernel
theorem dL_law_655 : decode cL_law 655 = .ok (.iaload, 1) := by decide +kernel
theorem dL_law_656 : decode cL_law 656 = .ok (.invokevirtual 81, 3) := by decide +kernel
theorem dL_law_659 : decode cL_law 659 = .ok (.aload_n 2, 1) := by decide +kernel
theorem dL_law_660 : decode cL_law 660 = .ok (.aload_n 0, 1) := by decide +kernel
theorem dL_law_661 : decode cL_law 661 = .ok (.iload_n 3, 1) := by decide +kernel
theorem dL_law_662 : decode cL_law 662 = .ok (.iconst 1, 1) := by decide +kernel
theorem dL_law_663 : decode cL_law 663 = .ok (.iadd, 1) := by decide +kernel
theorem dL_law_664 : decode cL_law 664 = .ok (.iaload, 1) := by decide +kernel
theorem dL_law_665 : decode cL_law 665 = .ok (.invokevirtual 84, 3) := by decide +kernel
theorem dL_law_668 : decode cL_law 668 = .ok (.if_icmp .eq 782, 3) := by decide +kernel
theorem dL_law_671 : decode cL_law 671 = .ok (.iconst 0, 1) := by decide +kernel
theorem dL_law_672 : decode cL_law 672 = .ok (.ireturn, 1) := by decide +kernel
theorem dL_law_673 : decode cL_law 673 = .ok (.aload_n 1, 1) := by decide +kernel
theorem dL_law_674 : decode cL_law 674 = .ok (.aload_n 0, 1) := by decide +kernel
theorem dL_law_675 : decode cL_law 675 = .ok (.iload_n 3, 1) := by decide +kernel
theorem dL_law_676 : decode cL_law 676 = .ok (.iconst 1, 1) := by decide +kernel
theorem dL_law_677 : decode cL_law 677 = .ok (.iadd, 1) := by decide +kernel
theorem dL_law_678 : decode cL_law 678 = .ok (.iaload, 1) := by decide +kernel
theorem dL_law_679 : decode cL_law 679 = .ok (.invokevirtual 85, 3) := by decide +kernel
theorem dL_law_682 : decode cL_law 682 = .ok (.aload_n 2, 1) := by decide +kernel
theorem dL_law_683 : decode cL_law 683 = .ok (.aload_n 0, 1) := by decide +kernel
theorem dL_law_684 : decode cL_law 684 = .ok (.iload_n 3, 1) := by decide +kernel
theorem dL_law_685 : decode cL_law 685 = .ok (.iconst 1, 1) := by decide +kernel
theorem dL_law_686 : decode cL_law 686 = .ok (.iadd, 1) := by decide +kernel
theorem dL_law_687 : decode cL_law 687 = .ok (.iaload, 1) := by decide +kernel
theorem dL_law_688 : decode cL_law 688 = .ok (.invokevirtual 88, 3) := by decide +kernel
theorem dL_law_691 : decode cL_law 691 = .ok (.if_icmp .eq 759, 3) := by decide +kernel
theorem dL_law_694 : decode cL_law 694 = .ok (.iconst 0, 1) := by decide +kernel
theorem dL_law_695 : decode cL_law 695 = .ok (.ireturn, 1) := by decide +kernel
theorem dL_law_696 : decode cL_law 696 = .ok (.aload_n 1, 1) := by decide +kernel
theorem dL_law_697 : decode cL_law 697 = .ok (.aload_n 0, 1) := by decide +kernel
theorem dL_law_698 : decode cL_law 698 = .ok (.iload_n 3, 1) := by decide +kernel
theorem dL_law_699 : decode cL_law 699 = .ok (.iconst 1, 1) := by decide +kernel
theorem dL_law_700 : decode cL_law 700 = .ok (.iadd, 1) := by decide +kernel
theorem dL_law_701 : decode cL_law 701 = .ok (.iaload, 1) := by decide +kernel
theorem dL_law_702 : decode cL_law 702 = .ok (.invokevirtual 89, 3) := by decide +kernel
theorem dL_law_705 : decode cL_law 705 = .ok (.aload_n 2, 1) := by decide +kernel
theorem dL_law_706 : decode cL_law 706 = .ok (.aload_n 0, 1) := by decide +kernel
theorem dL_law_707 : decode cL_law 707 = .ok (.iload_n 3, 1) := by decide +kernel
theorem dL_law_708 : decode cL_law 708 = .ok (.iconst 1, 1) := by decide +kernel
theorem dL_law_709 : decode cL_law 709 = .ok (.iadd, 1) := by decide +kernel
theorem dL_law_710 : decode cL_law 710 = .ok (.iaload, 1) := by decide +kernel
theorem dL_law_711 : decode cL_law 711 = .ok (.invokevirtual 92, 3) := by decide +kernel
theorem dL_law_714 : decode cL_law 714 = .ok (.if_icmp .eq 736, 3) := by decide +kernel
theorem dL_law_717 : decode cL_law 717 = .ok (.iconst 0, 1) := by decide +kernel
theorem dL_law_718 : decode cL_law 718 = .ok (.ireturn, 1) := by decide +kernel
theorem dL_law_719 : decode cL_law 719 = .ok (.aload_n 1, 1) := by decide +kernel
theorem dL_law_720 : decode cL_law 720 = .ok (.aload_n 0, 1) := by decide +kernel
theorem dL_law_721 : decode cL_law 721 = .ok (.iload_n 3, 1) := by decide +kernel
theorem dL_law_722 : decode cL_law 722 = .ok (.iconst 1, 1) := by decide +kernel
theorem dL_law_723 : decode cL_law 723 = .ok (.iadd, 1) := by decide +kernel
theorem dL_law_724 : decode cL_law 724 = .ok (.iaload, 1) := by decide +kernel
theorem dL_law_725 : decode cL_law 725 = .ok (.invokevirtual 93, 3) := by decide +kernel
theorem dL_law_728 : decode cL_law 728 = .ok (.aload_n 2, 1) := by decide +kernel
theorem dL_law_729 : decode cL_law 729 = .ok (.aload_n 0, 1) := by decide +kernel
theorem dL_law_730 : decode cL_law 730 = .ok (.iload_n 3, 1) := by decide +kernel
theorem dL_law_731 : decode cL_law 731 = .ok (.iconst 1, 1) := by decide +kernel
theorem dL_law_732 : decode cL_law 732 = .ok (.iadd, 1) := by decide +kernel
theorem dL_law_733 : decode cL_law 733 = .ok (.iaload, 1) := by decide +kernel
theorem dL_law_734 : decode cL_law 734 = .ok (.invokevirtual 96, 3) := by decide +kernel
theorem dL_law_737 : decode cL_law 737 = .ok (.if_icmp .eq 713, 3) := by decide +kernel
theorem dL_law_740 : decode cL_law 740 = .ok (.iconst 0, 1) := by decide +kernel
theorem dL_law_741 : decode cL_law 741 = .ok (.ireturn, 1) := by decide +kernel
theorem dL_law_742 : decode cL_law 742 = .ok (.aload_n 1, 1) := by decide +kernel
theorem dL_law_743 : decode cL_law 743 = .ok (.aload_n 0, 1) := by decide +kernel
theorem dL_law_744 : decode cL_law 744 = .ok (.iload_n 3, 1) := by decide +kernel
theorem dL_law_745 : decode cL_law 745 = .ok (.iconst 1, 1) := by decide +kernel
theorem dL_law_746 : decode cL_law 746 = .ok (.iadd, 1) := by decide +kernel
theorem dL_law_747 : decode cL_law 747 = .ok (.iaload, 1) := by decide +kernel
theorem dL_law_748 : decode cL_law 748 = .ok (.invokevirtual 97, 3) := by decide +kernel
theorem dL_law_751 : decode cL_law 751 = .ok (.aload_n 2, 1) := by decide +kernel
theorem dL_law_752 : decode cL_law 752 = .ok (.aload_n 0, 1) := by decide +kernel
theorem dL_law_753 : decode cL_law 753 = .ok (.iload_n 3, 1) := by decide +kernel
theorem dL_law_754 : decode cL_law 754 = .ok (.iconst 1, 1) := by decide +kernel
theorem dL_law_755 : decode cL_law 755 = .ok (.iadd, 1) := by decide +kernel
theorem dL_law_756 : decode cL_law 756 = .ok (.iaload, 1) := by decide +kernel
theorem dL_law_757 : decode cL_law 757 = .ok (.invokevirtual 100, 3) := by decide +kernel
theorem dL_law_760 : decode cL_law 760 = .ok (.if_icmp .eq 690, 3) := by decide +kernel
theorem dL_law_763 : decode cL_law 763 = .ok (.iconst 0, 1) := by decide +kernel
theorem dL_law_764 : decode cL_law 764 = .ok (.ireturn, 1) := by decide +kernel
theorem dL_law_765 : decode cL_law 765 = .ok (.aload_n 1, 1) := by decide +kernel
theorem dL_law_766 : decode cL_law 766 = .ok (.aload_n 0, 1) := by decide +kernel
theorem dL_law_767 : decode cL_law 767 = .ok (.iload_n 3, 1) := by decide +kernel
theorem dL_law_768 : decode cL_law 768 = .ok (.iconst 1, 1) := by decide +kernel
theorem dL_law_769 : decode cL_law 769 = .ok (.iadd, 1) := by decide +kernel
theorem dL_law_770 : decode cL_law 770 = .ok (.iaload, 1) := by decide +kernel
theorem dL_law_771 : decode cL_law 771 = .ok (.aload_n 0, 1) := by decide +kernel
theorem dL_law_772 : decode cL_law 772 = .ok (.iload_n 3, 1) := by decide +kernel
theorem dL_law_773 : decode cL_law 773 = .ok (.iconst 2, 1) := by decide +kernel
theorem dL_law_774 : decode cL_law 774 = .ok (.iadd, 1) := by decide +kernel
theorem dL_law_775 : decode cL_law 775 = .ok (.iaload, 1) := by decide +kernel
theorem dL_law_776 : decode cL_law 776 = .ok (.invokevirtual 101, 3) := by decide +kernel
theorem dL_law_779 : decode cL_law 779 = .ok (.aload_n 2, 1) := by decide +kernel
theorem dL_law_780 : decode cL_law 780 = .ok (.aload_n 0, 1) := by decide +kernel
theorem dL_law_781 : decode cL_law 781 = .ok (.iload_n 3, 1) := by decide +kernel
theorem dL_law_782 : decode cL_law 782 = .ok (.iconst 1, 1) := by decide +kernel
theorem dL_law_783 : decode cL_law 783 = .ok (.iadd, 1) := by decide +kernel
theorem dL_law_784 : decode cL_law 784 = .ok (.iaload, 1) := by decide +kernel
theorem dL_law_785 : decode cL_law 785 = .ok (.aload_n 0, 1) := by decide +kernel
theorem dL_law_786 : decode cL_law 786 = .ok (.iload_n 3, 1) := by decide +kernel
theorem dL_law_787 : decode cL_law 787 = .ok (.iconst 2, 1) := by decide +kernel
theorem dL_law_788 : decode cL_law 788 = .ok (.iadd, 1) := by decide +kernel
theorem dL_law_789 : decode cL_law 789 = .ok (.iaload, 1) := by decide +kernel
theorem dL_law_790 : decode cL_law 790 = .ok (.invokevirtual 104, 3) := by decide +kernel
theorem dL_law_793 : decode cL_law 793 = .ok (.if_icmp .eq 657, 3) := by decide +kernel
theorem dL_law_796 : decode cL_law 796 = .ok (.iconst 0, 1) := by decide +kernel
theorem dL_law_797 : decode cL_law 797 = .ok (.ireturn, 1) := by decide +kernel
theorem dL_law_798 : decode cL_law 798 = .ok (.aload_n 1, 1) := by decide +kernel
theorem dL_law_799 : decode cL_law 799 = .ok (.aload_n 0, 1) := by decide +kernel
theorem dL_law_800 : decode cL_law 800 = .ok (.iload_n 3, 1) := by decide +kernel
theorem dL_law_801 : decode cL_law 801 = .ok (.iconst 1, 1) := by decide +kernel
theorem dL_law_802 : decode cL_law 802 = .ok (.iadd, 1) := by decide +kernel
theorem dL_law_803 : decode cL_law 803 = .ok (.iaload, 1) := by decide +kernel
theorem dL_law_804 : decode cL_law 804 = .ok (.aload_n 0, 1) := by decide +kernel
theorem dL_law_805 : decode cL_law 805 = .ok (.iload_n 3, 1) := by decide +kernel
theorem dL_law_806 : decode cL_law 806 = .ok (.iconst 2, 1) := by decide +kernel
theorem dL_law_807 : decode cL_law 807 = .ok (.iadd, 1) := by decide +kernel
theorem dL_law_808 : decode cL_law 808 = .ok (.iaload, 1) := by decide +kernel
theorem dL_law_809 : decode cL_law 809 = .ok (.invokevirtual 105, 3) := by decide +kernel
theorem dL_law_812 : decode cL_law 812 = .ok (.aload_n 2, 1) := by decide +kernel
theorem dL_law_813 : decode cL_law 813 = .ok (.aload_n 0, 1) := by decide +kernel
theorem dL_law_814 : decode cL_law 814 = .ok (.iload_n 3, 1) := by decide +kernel
theorem dL_law_815 : decode cL_law 815 = .ok (.iconst 1, 1) := by decide +kernel
theorem dL_law_816 : decode cL_law 816 = .ok (.iadd, 1) := by decide +kernel
theorem dL_law_817 : decode cL_law 817 = .ok (.iaload, 1) := by decide +kernel
theorem dL_law_818 : decode cL_law 818 = .ok (.aload_n 0, 1) := by decide +kernel
theorem dL_law_819 : decode cL_law 819 = .ok (.iload_n 3, 1) := by decide +kernel
theorem dL_law_820 : decode cL_law 820 = .ok (.iconst 2, 1) := by decide +kernel
theorem dL_law_821 : decode cL_law 821 = .ok (.iadd, 1) := by decide +kernel
theorem dL_law_822 : decode cL_law 822 = .ok (.iaload, 1) := by decide +kernel
theorem dL_law_823 : decode cL_law 823 = .ok (.invokevirtual 108, 3) := by decide +kernel
theorem dL_law_826 : decode cL_law 826 = .ok (.if_icmp .eq 624, 3) := by decide +kernel
theorem dL_law_829 : decode cL_law 829 = .ok (.iconst 0, 1) := by decide +kernel
theorem dL_law_830 : decode cL_law 830 = .ok (.ireturn, 1) := by decide +kernel
theorem dL_law_831 : decode cL_law 831 = .ok (.aload_n 1, 1) := by decide +kernel
theorem dL_law_832 : decode cL_law 832 = .ok (.aload_n 0, 1) := by decide +kernel
theorem dL_law_833 : decode cL_law 833 = .ok (.iload_n 3, 1) := by decide +kernel
theorem dL_law_834 : decode cL_law 834 = .ok (.iconst 1, 1) := by decide +kernel
theorem dL_law_835 : decode cL_law 835 = .ok (.iadd, 1) := by decide +kernel
theorem dL_law_836 : decode cL_law 836 = .ok (.iaload, 1) := by decide +kernel
theorem dL_law_837 : decode cL_law 837 = .ok (.aload_n 0, 1) := by decide +kernel
theorem dL_law_838 : decode cL_law 838 = .ok (.iload_n 3, 1) := by decide +kernel
theorem dL_law_839 : decode cL_law 839 = .ok (.iconst 2, 1) := by decide +kernel
theorem dL_law_840 : decode cL_law 840 = .ok (.iadd, 1) := by decide +kernel
theorem dL_law_841 : decode cL_law 841 = .ok (.iaload, 1) := by decide +kernel
theorem dL_law_842 : decode cL_law 842 = .ok (.invokevirtual 109, 3) := by decide +kernel
theorem dL_law_845 : decode cL_law 845 = .ok (.aload_n 2, 1) := by decide +kernel
theorem dL_law_846 : decode cL_law 846 = .ok (.aload_n 0, 1) := by decide +kernel
theorem dL_law_847 : decode cL_law 847 = .ok (.iload_n 3, 1) := by decide +kernel
theorem dL_law_848 : decode cL_law 848 = .ok (.iconst 1, 1) := by decide +kernel
theorem dL_law_849 : decode cL_law 849 = .ok (.iadd, 1) := by decide +kernel
theorem dL_law_850 : decode cL_law 850 = .ok (.iaload, 1) := by decide +kernel
theorem dL_law_851 : decode cL_law 851 = .ok (.aload_n 0, 1) := by decide +kernel
theorem dL_law_852 : decode cL_law 852 = .ok (.iload_n 3, 1) := by decide +kernel
theorem dL_law_853 : decode cL_law 853 = .ok (.iconst 2, 1) := by decide +kernel
theorem dL_law_854 : decode cL_law 854 = .ok (.iadd, 1) := by decide +kernel
theorem dL_law_855 : decode cL_law 855 = .ok (.iaload, 1) := by decide +kernel
theorem dL_law_856 : decode cL_law 856 = .ok (.invokevirtual 112, 3) := by decide +kernel
theorem dL_law_859 : decode cL_law 859 = .ok (.if_icmp .eq 591, 3) := by decide +kernel
theorem dL_law_862 : decode cL_law 862 = .ok (.iconst 0, 1) := by decide +kernel
theorem dL_law_863 : decode cL_law 863 = .ok (.ireturn, 1) := by decide +kernel
theorem dL_law_864 : decode cL_law 864 = .ok (.aload_n 1, 1) := by decide +kernel
theorem dL_law_865 : decode cL_law 865 = .ok (.aload_n 0, 1) := by decide +kernel
theorem dL_law_866 : decode cL_law 866 = .ok (.iload_n 3, 1) := by decide +kernel
theorem dL_law_867 : decode cL_law 867 = .ok (.iconst 1, 1) := by decide +kernel
theorem dL_law_868 : decode cL_law 868 = .ok (.iadd, 1) := by decide +kernel
theorem dL_law_869 : decode cL_law 869 = .ok (.iaload, 1) := by decide +kernel
theorem dL_law_870 : decode cL_law 870 = .ok (.aload_n 0, 1) := by decide +kernel
theorem dL_law_871 : decode cL_law 871 = .ok (.iload_n 3, 1) := by decide +kernel
theorem dL_law_872 : decode cL_law 872 = .ok (.iconst 2, 1) := by decide +kernel
theorem dL_law_873 : decode cL_law 873 = .ok (.iadd, 1) := by decide +kernel
theorem dL_law_874 : decode cL_law 874 = .ok (.iaload, 1) := by decide +kernel
theorem dL_law_875 : decode cL_law 875 = .ok (.invokevirtual 113, 3) := by decide +kernel
theorem dL_law_878 : decode cL_law 878 = .ok (.aload_n 2, 1) := by decide +kernel
theorem dL_law_879 : decode cL_law 879 = .ok (.aload_n 0, 1) := by decide +kernel
theorem dL_law_880 : decode cL_law 880 = .ok (.iload_n 3, 1) := by decide +kernel
theorem dL_law_881 : decode cL_law 881 = .ok (.iconst 1, 1) := by decide +kernel
theorem dL_law_882 : decode cL_law 882 = .ok (.iadd, 1) := by decide +kernel
theorem dL_law_883 : decode cL_law 883 = .ok (.iaload, 1) := by decide +kernel
theorem dL_law_884 : decode cL_law 884 = .ok (.aload_n 0, 1) := by decide +kernel
theorem dL_law_885 : decode cL_law 885 = .ok (.iload_n 3, 1) := by decide +kernel
theorem dL_law_886 : decode cL_law 886 = .ok (.iconst 2, 1) := by decide +kernel
theorem dL_law_887 : decode cL_law 887 = .ok (.iadd, 1) := by decide +kernel
theorem dL_law_888 : decode cL_law 888 = .ok (.iaload, 1) := by decide +kernel
theorem dL_law_889 : decode cL_law 889 = .ok (.invokevirtual 116, 3) := by decide +kernel
theorem dL_law_892 : decode cL_law 892 = .ok (.if_icmp .eq 558, 3) := by decide +kernel
theorem dL_law_895 : decode cL_law 895 = .ok (.iconst 0, 1) := by decide +kernel
theorem dL_law_896 : decode cL_law 896 = .ok (.ireturn, 1) := by decide +kernel
theorem dL_law_897 : decode cL_law 897 = .ok (.aload_n 1, 1) := by decide +kernel
theorem dL_law_898 : decode cL_law 898 = .ok (.aload_n 0, 1) := by decide +kernel
theorem dL_law_899 : decode cL_law 899 = .ok (.iload_n 3, 1) := by decide +kernel
theorem dL_law_900 : decode cL_law 900 = .ok (.iconst 1, 1) := by decide +kernel
theorem dL_law_901 : decode cL_law 901 = .ok (.iadd, 1) := by decide +kernel
theorem dL_law_902 : decode cL_law 902 = .ok (.iaload, 1) := by decide +kernel
theorem dL_law_903 : decode cL_law 903 = .ok (.aload_n 0, 1) := by decide +kernel
theorem dL_law_904 : decode cL_law 904 = .ok (.iload_n 3, 1) := by decide +kernel
theorem dL_law_905 : decode cL_law 905 = .ok (.iconst 2, 1) := by decide +kernel
theorem dL_law_906 : decode cL_law 906 = .ok (.iadd, 1) := by decide +kernel
theorem dL_law_907 : decode cL_law 907 = .ok (.iaload, 1) := by decide +kernel
theorem dL_law_908 : decode cL_law 908 = .ok (.invokevirtual 117, 3) := by decide +kernel
theorem dL_law_911 : decode cL_law 911 = .ok (.aload_n 2, 1) := by decide +kernel
theorem dL_law_912 : decode cL_law 912 = .ok (.aload_n 0, 1) := by decide +kernel
theorem dL_law_913 : decode cL_law 913 = .ok (.iload_n 3, 1) := by decide +kernel
theorem dL_law_914 : decode cL_law 914 = .ok (.iconst 1, 1) := by decide +kernel
theorem dL_law_915 : decode cL_law 915 = .ok (.iadd, 1) := by decide +kernel
theorem dL_law_916 : decode cL_law 916 = .ok (.iaload, 1) := by decide +kernel
theorem dL_law_917 : decode cL_law 917 = .ok (.aload_n 0, 1) := by decide +kernel
theorem dL_law_918 : decode cL_law 918 = .ok (.iload_n 3, 1) := by decide +kernel
theorem dL_law_919 : decode cL_law 919 = .ok (.iconst 2, 1) := by decide +kernel
theorem dL_law_920 : decode cL_law 920 = .ok (.iadd, 1) := by decide +kernel
theorem dL_law_921 : decode cL_law 921 = .ok (.iaload, 1) := by decide +kernel
theorem dL_law_922 : decode cL_law 922 = .ok (.invokevirtual 120, 3) := by decide +kernel
theorem dL_law_925 : decode cL_law 925 = .ok (.if_icmp .eq 525, 3) := by decide +kernel
theorem dL_law_928 : decode cL_law 928 = .ok (.iconst 0, 1) := by decide +kernel
theorem dL_law_929 : decode cL_law 929 = .ok (.ireturn, 1) := by decide +kernel
theorem dL_law_930 : decode cL_law 930 = .ok (.aload_n 1, 1) := by decide +kernel
theorem dL_law_931 : decode cL_law 931 = .ok (.aload_n 0, 1) := by decide +kernel
theorem dL_law_932 : decode cL_law 932 = .ok (.iload_n 3, 1) := by decide +kernel
theorem dL_law_933 : decode cL_law 933 = .ok (.iconst 1, 1) := by decide +kernel
theorem dL_law_934 : decode cL_law 934 = .ok (.iadd, 1) := by decide +kernel
theorem dL_law_935 : decode cL_law 935 = .ok (.iaload, 1) := by decide +kernel
theorem dL_law_936 : decode cL_law 936 = .ok (.invokevirtual 121, 3) := by decide +kernel
theorem dL_law_939 : decode cL_law 939 = .ok (.aload_n 2, 1) := by decide +kernel
theorem dL_law_940 : decode cL_law 940 = .ok (.aload_n 0, 1) := by decide +kernel
theorem dL_law_941 : decode cL_law 941 = .ok (.iload_n 3, 1) := by decide +kernel
theorem dL_law_942 : decode cL_law 942 = .ok (.iconst 1, 1) := by decide +kernel
theorem dL_law_943 : decode cL_law 943 = .ok (.iadd, 1) := by decide +kernel
theorem dL_law_944 : decode cL_law 944 = .ok (.iaload, 1) := by decide +kernel
theorem dL_law_945 : decode cL_law 945 = .ok (.invokevirtual 124, 3) := by decide +kernel
theorem dL_law_948 : decode cL_law 948 = .ok (.if_icmp .eq 502, 3) := by decide +kernel
theorem dL_law_951 : decode cL_law 951 = .ok (.iconst 0, 1) := by decide +kernel
theorem dL_law_952 : decode cL_law 952 = .ok (.ireturn, 1) := by decide +kernel
theorem dL_law_953 : decode cL_law 953 = .ok (.aload_n 1, 1) := by decide +kernel
theorem dL_law_954 : decode cL_law 954 = .ok (.invokevirtual 125, 3) := by decide +kernel
theorem dL_law_957 : decode cL_law 957 = .ok (.aload_n 2, 1) := by decide +kernel
theorem dL_law_958 : decode cL_law 958 = .ok (.invokevirtual 128, 3) := by decide +kernel
theorem dL_law_961 : decode cL_law 961 = .ok (.if_icmp .eq 489, 3) := by decide +kernel
theorem dL_law_964 : decode cL_law 964 = .ok (.iconst 0, 1) := by decide +kernel
theorem dL_law_965 : decode cL_law 965 = .ok (.ireturn, 1) := by decide +kernel
theorem dL_law_966 : decode cL_law 966 = .ok (.aload_n 1, 1) := by decide +kernel
theorem dL_law_967 : decode cL_law 967 = .ok (.aload_n 0, 1) := by decide +kernel
theorem dL_law_968 : decode cL_law 968 = .ok (.iload_n 3, 1) := by decide +kernel
theorem dL_law_969 : decode cL_law 969 = .ok (.iconst 1, 1) := by decide +kernel
theorem dL_law_970 : decode cL_law 970 = .ok (.iadd, 1) := by decide +kernel
theorem dL_law_971 : decode cL_law 971 = .ok (.iaload, 1) := by decide +kernel
theorem dL_law_972 : decode cL_law 972 = .ok (.invokevirtual 129, 3) := by decide +kernel
theorem dL_law_975 : decode cL_law 975 = .ok (.aload_n 2, 1) := by decide +kernel
theorem dL_law_976 : decode cL_law 976 = .ok (.aload_n 0, 1) := by decide +kernel
theorem dL_law_977 : decode cL_law 977 = .ok (.iload_n 3, 1) := by decide +kernel
theorem dL_law_978 : decode cL_law 978 = .ok (.iconst 1, 1) := by decide +kernel
theorem dL_law_979 : decode cL_law 979 = .ok (.iadd, 1) := by decide +kernel
theorem dL_law_980 : decode cL_law 980 = .ok (.iaload, 1) := by decide +kernel
theorem dL_law_981 : decode cL_law 981 = .ok (.invokevirtual 132, 3) := by decide +kernel
theorem dL_law_984 : decode cL_law 984 = .ok (.if_icmp .eq 466, 3) := by decide +kernel
theorem dL_law_987 : decode cL_law 987 = .ok (.iconst 0, 1) := by decide +kernel
theorem dL_law_988 : decode cL_law 988 = .ok (.ireturn, 1) := by decide +kernel
theorem dL_law_989 : decode cL_law 989 = .ok (.aload_n 1, 1) := by decide +kernel
theorem dL_law_990 : decode cL_law 990 = .ok (.aload_n 0, 1) := by decide +kernel
theorem dL_law_991 : decode cL_law 991 = .ok (.iload_n 3, 1) := by decide +kernel
theorem dL_law_992 : decode cL_law 992 = .ok (.iconst 1, 1) := by decide +kernel
theorem dL_law_993 : decode cL_law 993 = .ok (.iadd, 1) := by decide +kernel
theorem dL_law_994 : decode cL_law 994 = .ok (.iaload, 1) := by decide +kernel
theorem dL_law_995 : decode cL_law 995 = .ok (.invokevirtual 133, 3) := by decide +kernel
theorem dL_law_998 : decode cL_law 998 = .ok (.aload_n 2, 1) := by decide +kernel
theorem dL_law_999 : decode cL_law 999 = .ok (.aload_n 0, 1) := by decide +kernel
theorem dL_law_1000 : decode cL_law 1000 = .ok (.iload_n 3, 1) := by decide +kernel
theorem dL_law_1001 : decode cL_law 1001 = .ok (.iconst 1, 1) := by decide +kernel
theorem dL_law_1002 : decode cL_law 1002 = .ok (.iadd, 1) := by decide +kernel
theorem dL_law_1003 : decode cL_law 1003 = .ok (.iaload, 1) := by decide +kernel
theorem dL_law_1004 : decode cL_law 1004 = .ok (.invokevirtual 136, 3) := by decide +kernel
theorem dL_law_1007 : decode cL_law 1007 = .ok (.if_icmp .eq 443, 3) := by decide +kernel
theorem dL_law_1010 : decode cL_law 1010 = .ok (.iconst 0, 1) := by decide +kernel
theorem dL_law_1011 : decode cL_law 1011 = .ok (.ireturn, 1) := by decide +kernel
theorem dL_law_1012 : decode cL_law 1012 = .ok (.aload_n 1, 1) := by decide +kernel
theorem dL_law_1013 : decode cL_law 1013 = .ok (.aload_n 0, 1) := by decide +kernel
theorem dL_law_1014 : decode cL_law 1014 = .ok (.iload_n 3, 1) := by decide +kernel
theorem dL_law_1015 : decode cL_law 1015 = .ok (.iconst 1, 1) := by decide +kernel
theorem dL_law_1016 : decode cL_law 1016 = .ok (.iadd, 1) := by decide +kernel
theorem dL_law_1017 : decode cL_law 1017 = .ok (.iaload, 1) := by decide +kernel
theorem dL_law_1018 : decode cL_law 1018 = .ok (.invokevirtual 137, 3) := by decide +kernel
theorem dL_law_1021 : decode cL_law 1021 = .ok (.aload_n 2, 1) := by decide +kernel
theorem dL_law_1022 : decode cL_law 1022 = .ok (.aload_n 0, 1) := by decide +kernel
theorem dL_law_1023 : decode cL_law 1023 = .ok (.iload_n 3, 1) := by decide +kernel
theorem dL_law_1024 : decode cL_law 1024 = .ok (.iconst 1, 1) := by decide +kernel
theorem dL_law_1025 : decode cL_law 1025 = .ok (.iadd, 1) := by decide +kernel
theorem dL_law_1026 : decode cL_law 1026 = .ok (.iaload, 1) := by decide +kernel
theorem dL_law_1027 : decode cL_law 1027 = .ok (.invokevirtual 140, 3) := by decide +kernel
theorem dL_law_1030 : decode cL_law 1030 = .ok (.if_icmp .eq 420, 3) := by decide +kernel
theorem dL_law_1033 : decode cL_law 1033 = .ok (.iconst 0, 1) := by decide +kernel
theorem dL_law_1034 : decode cL_law 1034 = .ok (.ireturn, 1) := by decide +kernel
theorem dL_law_1035 : decode cL_law 1035 = .ok (.aload_n 1, 1) := by decide +kernel
theorem dL_law_1036 : decode cL_law 1036 = .ok (.aload_n 0, 1) := by decide +kernel
theorem dL_law_1037 : decode cL_law 1037 = .ok (.iload_n 3, 1) := by decide +kernel
theorem dL_law_1038 : decode cL_law 1038 = .ok (.iconst 1, 1) := by decide +kernel
theorem dL_law_1039 : decode cL_law 1039 = .ok (.iadd, 1) := by decide +kernel
theorem dL_law_1040 : decode cL_law 1040 = .ok (.iaload, 1) := by decide +kernel
theorem dL_law_1041 : decode cL_law 1041 = .ok (.aload_n 0, 1) := by decide +kernel
theorem dL_law_1042 : decode cL_law 1042 = .ok (.iload_n 3, 1) := by decide +kernel
theorem dL_law_1043 : decode cL_law 1043 = .ok (.iconst 2, 1) := by decide +kernel
theorem dL_law_1044 : decode cL_law 1044 = .ok (.iadd, 1) := by decide +kernel
theorem dL_law_1045 : decode cL_law 1045 = .ok (.iaload, 1) := by decide +kernel
theorem dL_law_1046 : decode cL_law 1046 = .ok (.invokevirtual 141, 3) := by decide +kernel
theorem dL_law_1049 : decode cL_law 1049 = .ok (.aload_n 2, 1) := by decide +kernel
theorem dL_law_1050 : decode cL_law 1050 = .ok (.aload_n 0, 1) := by decide +kernel
theorem dL_law_1051 : decode cL_law 1051 = .ok (.iload_n 3, 1) := by decide +kernel
theorem dL_law_1052 : decode cL_law 1052 = .ok (.iconst 1, 1) := by decide +kernel
theorem dL_law_1053 : decode cL_law 1053 = .ok (.iadd, 1) := by decide +kernel
theorem dL_law_1054 : decode cL_law 1054 = .ok (.iaload, 1) := by decide +kernel
theorem dL_law_1055 : decode cL_law 1055 = .ok (.aload_n 0, 1) := by decide +kernel
theorem dL_law_1056 : decode cL_law 1056 = .ok (.iload_n 3, 1) := by decide +kernel
theorem dL_law_1057 : decode cL_law 1057 = .ok (.iconst 2, 1) := by decide +kernel
theorem dL_law_1058 : decode cL_law 1058 = .ok (.iadd, 1) := by decide +kernel
theorem dL_law_1059 : decode cL_law 1059 = .ok (.iaload, 1) := by decide +kernel
theorem dL_law_1060 : decode cL_law 1060 = .ok (.invokevirtual 144, 3) := by decide +kernel
theorem dL_law_1063 : decode cL_law 1063 = .ok (.if_icmp .eq 387, 3) := by decide +kernel
theorem dL_law_1066 : decode cL_law 1066 = .ok (.iconst 0, 1) := by decide +kernel
theorem dL_law_1067 : decode cL_law 1067 = .ok (.ireturn, 1) := by decide +kernel
theorem dL_law_1068 : decode cL_law 1068 = .ok (.aload_n 1, 1) := by decide +kernel
theorem dL_law_1069 : decode cL_law 1069 = .ok (.invokevirtual 145, 3) := by decide +kernel
theorem dL_law_1072 : decode cL_law 1072 = .ok (.aload_n 2, 1) := by decide +kernel
theorem dL_law_1073 : decode cL_law 1073 = .ok (.invokevirtual 148, 3) := by decide +kernel
theorem dL_law_1076 : decode cL_law 1076 = .ok (.if_icmp .eq 374, 3) := by decide +kernel
theorem dL_law_1079 : decode cL_law 1079 = .ok (.iconst 0, 1) := by decide +kernel
theorem dL_law_1080 : decode cL_law 1080 = .ok (.ireturn, 1) := by decide +kernel
theorem dL_law_1081 : decode cL_law 1081 = .ok (.aload_n 1, 1) := by decide +kernel
theorem dL_law_1082 : decode cL_law 1082 = .ok (.invokevirtual 149, 3) := by decide +kernel
theorem dL_law_1085 : decode cL_law 1085 = .ok (.aload_n 2, 1) := by decide +kernel
theorem dL_law_1086 : decode cL_law 1086 = .ok (.invokevirtual 152, 3) := by decide +kernel
theorem dL_law_1089 : decode cL_law 1089 = .ok (.if_icmp .eq 361, 3) := by decide +kernel
theorem dL_law_1092 : decode cL_law 1092 = .ok (.iconst 0, 1) := by decide +kernel
theorem dL_law_1093 : decode cL_law 1093 = .ok (.ireturn, 1) := by decide +kernel
theorem dL_law_1094 : decode cL_law 1094 = .ok (.aload_n 1, 1) := by decide +kernel
theorem dL_law_1095 : decode cL_law 1095 = .ok (.aload_n 0, 1) := by decide +kernel
theorem dL_law_1096 : decode cL_law 1096 = .ok (.iload_n 3, 1) := by decide +kernel
theorem dL_law_1097 : decode cL_law 1097 = .ok (.iconst 1, 1) := by decide +kernel
theorem dL_law_1098 : decode cL_law 1098 = .ok (.iadd, 1) := by decide +kernel
theorem dL_law_1099 : decode cL_law 1099 = .ok (.iaload, 1) := by decide +kernel
theorem dL_law_1100 : decode cL_law 1100 = .ok (.aload_n 0, 1) := by decide +kernel
theorem dL_law_1101 : decode cL_law 1101 = .ok (.iload_n 3, 1) := by decide +kernel
theorem dL_law_1102 : decode cL_law 1102 = .ok (.iconst 2, 1) := by decide +kernel
theorem dL_law_1103 : decode cL_law 1103 = .ok (.iadd, 1) := by decide +kernel
theorem dL_law_1104 : decode cL_law 1104 = .ok (.iaload, 1) := by decide +kernel
theorem dL_law_1105 : decode cL_law 1105 = .ok (.invokevirtual 153, 3) := by decide +kernel
theorem dL_law_1108 : decode cL_law 1108 = .ok (.aload_n 2, 1) := by decide +kernel
theorem dL_law_1109 : decode cL_law 1109 = .ok (.aload_n 0, 1) := by decide +kernel
theorem dL_law_1110 : decode cL_law 1110 = .ok (.iload_n 3, 1) := by decide +kernel
theorem dL_law_1111 : decode cL_law 1111 = .ok (.iconst 1, 1) := by decide +kernel
theorem dL_law_1112 : decode cL_law 1112 = .ok (.iadd, 1) := by decide +kernel
theorem dL_law_1113 : decode cL_law 1113 = .ok (.iaload, 1) := by decide +kernel
theorem dL_law_1114 : decode cL_law 1114 = .ok (.aload_n 0, 1) := by decide +kernel
theorem dL_law_1115 : decode cL_law 1115 = .ok (.iload_n 3, 1) := by decide +kernel
theorem dL_law_1116 : decode cL_law 1116 = .ok (.iconst 2, 1) := by decide +kernel
theorem dL_law_1117 : decode cL_law 1117 = .ok (.iadd, 1) := by decide +kernel
theorem dL_law_1118 : decode cL_law 1118 = .ok (.iaload, 1) := by decide +kernel
theorem dL_law_1119 : decode cL_law 1119 = .ok (.invokevirtual 156, 3) := by decide +kernel
theorem dL_law_1122 : decode cL_law 1122 = .ok (.if_icmp .eq 328, 3) := by decide +kernel
theorem dL_law_1125 : decode cL_law 1125 = .ok (.iconst 0, 1) := by decide +kernel
theorem dL_law_1126 : decode cL_law 1126 = .ok (.ireturn, 1) := by decide +kernel
theorem dL_law_1127 : decode cL_law 1127 = .ok (.aload_n 1, 1) := by decide +kernel
theorem dL_law_1128 : decode cL_law 1128 = .ok (.aload_n 0, 1) := by decide +kernel
theorem dL_law_1129 : decode cL_law 1129 = .ok (.iload_n 3, 1) := by decide +kernel
theorem dL_law_1130 : decode cL_law 1130 = .ok (.iconst 1, 1) := by decide +kernel
theorem dL_law_1131 : decode cL_law 1131 = .ok (.iadd, 1) := by decide +kernel
theorem dL_law_1132 : decode cL_law 1132 = .ok (.iaload, 1) := by decide +kernel
theorem dL_law_1133 : decode cL_law 1133 = .ok (.aload_n 0, 1) := by decide +kernel
theorem dL_law_1134 : decode cL_law 1134 = .ok (.iload_n 3, 1) := by decide +kernel
theorem dL_law_1135 : decode cL_law 1135 = .ok (.iconst 2, 1) := by decide +kernel
theorem dL_law_1136 : decode cL_law 1136 = .ok (.iadd, 1) := by decide +kernel
theorem dL_law_1137 : decode cL_law 1137 = .ok (.iaload, 1) := by decide +kernel
theorem dL_law_1138 : decode cL_law 1138 = .ok (.invokevirtual 157, 3) := by decide +kernel
theorem dL_law_1141 : decode cL_law 1141 = .ok (.aload_n 2, 1) := by decide +kernel
theorem dL_law_1142 : decode cL_law 1142 = .ok (.aload_n 0, 1) := by decide +kernel
theorem dL_law_1143 : decode cL_law 1143 = .ok (.iload_n 3, 1) := by decide +kernel
theorem dL_law_1144 : decode cL_law 1144 = .ok (.iconst 1, 1) := by decide +kernel
theorem dL_law_1145 : decode cL_law 1145 = .ok (.iadd, 1) := by decide +kernel
theorem dL_law_1146 : decode cL_law 1146 = .ok (.iaload, 1) := by decide +kernel
theorem dL_law_1147 : decode cL_law 1147 = .ok (.aload_n 0, 1) := by decide +kernel
theorem dL_law_1148 : decode cL_law 1148 = .ok (.iload_n 3, 1) := by decide +kernel
theorem dL_law_1149 : decode cL_law 1149 = .ok (.iconst 2, 1) := by decide +kernel
theorem dL_law_1150 : decode cL_law 1150 = .ok (.iadd, 1) := by decide +kernel
theorem dL_law_1151 : decode cL_law 1151 = .ok (.iaload, 1) := by decide +kernel
theorem dL_law_1152 : decode cL_law 1152 = .ok (.invokevirtual 160, 3) := by decide +kernel
theorem dL_law_1155 : decode cL_law 1155 = .ok (.if_icmp .eq 295, 3) := by decide +kernel
theorem dL_law_1158 : decode cL_law 1158 = .ok (.iconst 0, 1) := by decide +kernel
theorem dL_law_1159 : decode cL_law 1159 = .ok (.ireturn, 1) := by decide +kernel
theorem dL_law_1160 : decode cL_law 1160 = .ok (.aload_n 1, 1) := by decide +kernel
theorem dL_law_1161 : decode cL_law 1161 = .ok (.aload_n 0, 1) := by decide +kernel
theorem dL_law_1162 : decode cL_law 1162 = .ok (.iload_n 3, 1) := by decide +kernel
theorem dL_law_1163 : decode cL_law 1163 = .ok (.iconst 1, 1) := by decide +kernel
theorem dL_law_1164 : decode cL_law 1164 = .ok (.iadd, 1) := by decide +kernel
theorem dL_law_1165 : decode cL_law 1165 = .ok (.iaload, 1) := by decide +kernel
theorem dL_law_1166 : decode cL_law 1166 = .ok (.aload_n 0, 1) := by decide +kernel
theorem dL_law_1167 : decode cL_law 1167 = .ok (.iload_n 3, 1) := by decide +kernel
theorem dL_law_1168 : decode cL_law 1168 = .ok (.iconst 2, 1) := by decide +kernel
theorem dL_law_1169 : decode cL_law 1169 = .ok (.iadd, 1) := by decide +kernel
theorem dL_law_1170 : decode cL_law 1170 = .ok (.iaload, 1) := by decide +kernel
theorem dL_law_1171 : decode cL_law 1171 = .ok (.aload_n 0, 1) := by decide +kernel
theorem dL_law_1172 : decode cL_law 1172 = .ok (.iload_n 3, 1) := by decide +kernel
theorem dL_law_1173 : decode cL_law 1173 = .ok (.iconst 3, 1) := by decide +kernel
theorem dL_law_1174 : decode cL_law 1174 = .ok (.iadd, 1) := by decide +kernel
theorem dL_law_1175 : decode cL_law 1175 = .ok (.iaload, 1) := by decide +kernel
theorem dL_law_1176 : decode cL_law 1176 = .ok (.invokevirtual 161, 3) := by decide +kernel
theorem dL_law_1179 : decode cL_law 1179 = .ok (.aload_n 2, 1) := by decide +kernel
theorem dL_law_1180 : decode cL_law 1180 = .ok (.aload_n 0, 1) := by decide +kernel
theorem dL_law_1181 : decode cL_law 1181 = .ok (.iload_n 3, 1) := by decide +kernel
theorem dL_law_1182 : decode cL_law 1182 = .ok (.iconst 1, 1) := by decide +kernel
theorem dL_law_1183 : decode cL_law 1183 = .ok (.iadd, 1) := by decide +kernel
theorem dL_law_1184 : decode cL_law 1184 = .ok (.iaload, 1) := by decide +kernel
theorem dL_law_1185 : decode cL_law 1185 = .ok (.aload_n 0, 1) := by decide +kernel
theorem dL_law_1186 : decode cL_law 1186 = .ok (.iload_n 3, 1) := by decide +kernel
theorem dL_law_1187 : decode cL_law 1187 = .ok (.iconst 2, 1) := by decide +kernel
theorem dL_law_1188 : decode cL_law 1188 = .ok (.iadd, 1) := by decide +kernel
theorem dL_law_1189 : decode cL_law 1189 = .ok (.iaload, 1) := by decide +kernel
theorem dL_law_1190 : decode cL_law 1190 = .ok (.aload_n 0, 1) := by decide +kernel
theorem dL_law_1191 : decode cL_law 1191 = .ok (.iload_n 3, 1) := by decide +kernel
theorem dL_law_1192 : decode cL_law 1192 = .ok (.iconst 3, 1) := by decide +kernel
theorem dL_law_1193 : decode cL_law 1193 = .ok (.iadd, 1) := by decide +kernel
theorem dL_law_1194 : decode cL_law 1194 = .ok (.iaload, 1) := by decide +kernel
theorem dL_law_1195 : decode cL_law 1195 = .ok (.invokevirtual 164, 3) := by decide +kernel
theorem dL_law_1198 : decode cL_law 1198 = .ok (.if_icmp .eq 252, 3) := by decide +kernel
theorem dL_law_1201 : decode cL_law 1201 = .ok (.iconst 0, 1) := by decide +kernel
theorem dL_law_1202 : decode cL_law 1202 = .ok (.ireturn, 1) := by decide +kernel
theorem dL_law_1203 : decode cL_law 1203 = .ok (.aload_n 1, 1) := by decide +kernel
theorem dL_law_1204 : decode cL_law 1204 = .ok (.aload_n 0, 1) := by decide +kernel
theorem dL_law_1205 : decode cL_law 1205 = .ok (.iload_n 3, 1) := by decide +kernel
theorem dL_law_1206 : decode cL_law 1206 = .ok (.iconst 1, 1) := by decide +kernel
theorem dL_law_1207 : decode cL_law 1207 = .ok (.iadd, 1) := by decide +kernel
theorem dL_law_1208 : decode cL_law 1208 = .ok (.iaload, 1) := by decide +kernel
theorem dL_law_1209 : decode cL_law 1209 = .ok (.aload_n 0, 1) := by decide +kernel
theorem dL_law_1210 : decode cL_law 1210 = .ok (.iload_n 3, 1) := by decide +kernel
theorem dL_law_1211 : decode cL_law 1211 = .ok (.iconst 2, 1) := by decide +kernel
theorem dL_law_1212 : decode cL_law 1212 = .ok (.iadd, 1) := by decide +kernel
theorem dL_law_1213 : decode cL_law 1213 = .ok (.iaload, 1) := by decide +kernel
theorem dL_law_1214 : decode cL_law 1214 = .ok (.aload_n 0, 1) := by decide +kernel
theorem dL_law_1215 : decode cL_law 1215 = .ok (.iload_n 3, 1) := by decide +kernel
theorem dL_law_1216 : decode cL_law 1216 = .ok (.iconst 3, 1) := by decide +kernel
theorem dL_law_1217 : decode cL_law 1217 = .ok (.iadd, 1) := by decide +kernel
theorem dL_law_1218 : decode cL_law 1218 = .ok (.iaload, 1) := by decide +kernel
theorem dL_law_1219 : decode cL_law 1219 = .ok (.invokevirtual 165, 3) := by decide +kernel
theorem dL_law_1222 : decode cL_law 1222 = .ok (.aload_n 2, 1) := by decide +kernel
theorem dL_law_1223 : decode cL_law 1223 = .ok (.aload_n 0, 1) := by decide +kernel
theorem dL_law_1224 : decode cL_law 1224 = .ok (.iload_n 3, 1) := by decide +kernel
theorem dL_law_1225 : decode cL_law 1225 = .ok (.iconst 1, 1) := by decide +kernel
theorem dL_law_1226 : decode cL_law 1226 = .ok (.iadd, 1) := by decide +kernel
theorem dL_law_1227 : decode cL_law 1227 = .ok (.iaload, 1) := by decide +kernel
theorem dL_law_1228 : decode cL_law 1228 = .ok (.aload_n 0, 1) := by decide +kernel
theorem dL_law_1229 : decode cL_law 1229 = .ok (.iload_n 3, 1) := by decide +kernel
theorem dL_law_1230 : decode cL_law 1230 = .ok (.iconst 2, 1) := by decide +kernel
theorem dL_law_1231 : decode cL_law 1231 = .ok (.iadd, 1) := by decide +kernel
theorem dL_law_1232 : decode cL_law 1232 = .ok (.iaload, 1) := by decide +kernel
theorem dL_law_1233 : decode cL_law 1233 = .ok (.aload_n 0, 1) := by decide +kernel
theorem dL_law_1234 : decode cL_law 1234 = .ok (.iload_n 3, 1) := by decide +kernel
theorem dL_law_1235 : decode cL_law 1235 = .ok (.iconst 3, 1) := by decide +kernel
theorem dL_law_1236 : decode cL_law 1236 = .ok (.iadd, 1) := by decide +kernel
theorem dL_law_1237 : decode cL_law 1237 = .ok (.iaload, 1) := by decide +kernel
theorem dL_law_1238 : decode cL_law 1238 = .ok (.invokevirtual 168, 3) := by decide +kernel
theorem dL_law_1241 : decode cL_law 1241 = .ok (.if_icmp .eq 209, 3) := by decide +kernel
theorem dL_law_1244 : decode cL_law 1244 = .ok (.iconst 0, 1) := by decide +kernel
theorem dL_law_1245 : decode cL_law 1245 = .ok (.ireturn, 1) := by decide +kernel
theorem dL_law_1246 : decode cL_law 1246 = .ok (.aload_n 1, 1) := by decide +kernel
theorem dL_law_1247 : decode cL_law 1247 = .ok (.aload_n 0, 1) := by decide +kernel
theorem dL_law_1248 : decode cL_law 1248 = .ok (.iload_n 3, 1) := by decide +kernel
theorem dL_law_1249 : decode cL_law 1249 = .ok (.iconst 1, 1) := by decide +kernel
theorem dL_law_1250 : decode cL_law 1250 = .ok (.iadd, 1) := by decide +kernel
theorem dL_law_1251 : decode cL_law 1251 = .ok (.iaload, 1) := by decide +kernel
theorem dL_law_1252 : decode cL_law 1252 = .ok (.aload_n 0, 1) := by decide +kernel
theorem dL_law_1253 : decode cL_law 1253 = .ok (.iload_n 3, 1) := by decide +kernel
theorem dL_law_1254 : decode cL_law 1254 = .ok (.iconst 2, 1) := by decide +kernel
theorem dL_law_1255 : decode cL_law 1255 = .ok (.iadd, 1) := by decide +kernel
theorem dL_law_1256 : decode cL_law 1256 = .ok (.iaload, 1) := by decide +kernel
theorem dL_law_1257 : decode cL_law 1257 = .ok (.aload_n 0, 1) := by decide +kernel
theorem dL_law_1258 : decode cL_law 1258 = .ok (.iload_n 3, 1) := by decide +kernel
theorem dL_law_1259 : decode cL_law 1259 = .ok (.iconst 3, 1) := by decide +kernel
theorem dL_law_1260 : decode cL_law 1260 = .ok (.iadd, 1) := by decide +kernel
theorem dL_law_1261 : decode cL_law 1261 = .ok (.iaload, 1) := by decide +kernel
theorem dL_law_1262 : decode cL_law 1262 = .ok (.aload_n 0, 1) := by decide +kernel
theorem dL_law_1263 : decode cL_law 1263 = .ok (.iload_n 3, 1) := by decide +kernel
theorem dL_law_1264 : decode cL_law 1264 = .ok (.iconst 4, 1) := by decide +kernel
theorem dL_law_1265 : decode cL_law 1265 = .ok (.iadd, 1) := by decide +kernel
theorem dL_law_1266 : decode cL_law 1266 = .ok (.iaload, 1) := by decide +kernel
theorem dL_law_1267 : decode cL_law 1267 = .ok (.aload_n 0, 1) := by decide +kernel
theorem dL_law_1268 : decode cL_law 1268 = .ok (.iload_n 3, 1) := by decide +kernel
theorem dL_law_1269 : decode cL_law 1269 = .ok (.iconst 5, 1) := by decide +kernel
theorem dL_law_1270 : decode cL_law 1270 = .ok (.iadd, 1) := by decide +kernel
theorem dL_law_1271 : decode cL_law 1271 = .ok (.iaload, 1) := by decide +kernel
theorem dL_law_1272 : decode cL_law 1272 = .ok (.invokevirtual 169, 3) := by decide +kernel
theorem dL_law_1275 : decode cL_law 1275 = .ok (.aload_n 2, 1) := by decide +kernel
theorem dL_law_1276 : decode cL_law 1276 = .ok (.aload_n 0, 1) := by decide +kernel
theorem dL_law_1277 : decode cL_law 1277 = .ok (.iload_n 3, 1) := by decide +kernel
theorem dL_law_1278 : decode cL_law 1278 = .ok (.iconst 1, 1) := by decide +kernel
theorem dL_law_1279 : decode cL_law 1279 = .ok (.iadd, 1) := by decide +kernel
theorem dL_law_1280 : decode cL_law 1280 = .ok (.iaload, 1) := by decide +kernel
theorem dL_law_1281 : decode cL_law 1281 = .ok (.aload_n 0, 1) := by decide +kernel
theorem dL_law_1282 : decode cL_law 1282 = .ok (.iload_n 3, 1) := by decide +kernel
theorem dL_law_1283 : decode cL_law 1283 = .ok (.iconst 2, 1) := by decide +kernel
theorem dL_law_1284 : decode cL_law 1284 = .ok (.iadd, 1) := by decide +kernel
theorem dL_law_1285 : decode cL_law 1285 = .ok (.iaload, 1) := by decide +kernel
theorem dL_law_1286 : decode cL_law 1286 = .ok (.aload_n 0, 1) := by decide +kernel
theorem dL_law_1287 : decode cL_law 1287 = .ok (.iload_n 3, 1) := by decide +kernel
theorem dL_law_1288 : decode cL_law 1288 = .ok (.iconst 3, 1) := by decide +kernel
theorem dL_law_1289 : decode cL_law 1289 = .ok (.iadd, 1) := by decide +kernel
theorem dL_law_1290 : decode cL_law 1290 = .ok (.iaload, 1) := by decide +kernel
theorem dL_law_1291 : decode cL_law 1291 = .ok (.aload_n 0, 1) := by decide +kernel
theorem dL_law_1292 : decode cL_law 1292 = .ok (.iload_n 3, 1) := by decide +kernel
theorem dL_law_1293 : decode cL_law 1293 = .ok (.iconst 4, 1) := by decide +kernel
theorem dL_law_1294 : decode cL_law 1294 = .ok (.iadd, 1) := by decide +kernel
theorem dL_law_1295 : decode cL_law 1295 = .ok (.iaload, 1) := by decide +kernel
theorem dL_law_1296 : decode cL_law 1296 = .ok (.aload_n 0, 1) := by decide +kernel
theorem dL_law_1297 : decode cL_law 1297 = .ok (.iload_n 3, 1) := by decide +kernel
theorem dL_law_1298 : decode cL_law 1298 = .ok (.iconst 5, 1) := by decide +kernel
theorem dL_law_1299 : decode cL_law 1299 = .ok (.iadd, 1) := by decide +kernel
theorem dL_law_1300 : decode cL_law 1300 = .ok (.iaload, 1) := by decide +kernel
theorem dL_law_1301 : decode cL_law 1301 = .ok (.invokevirtual 173, 3) := by decide +kernel
theorem dL_law_1304 : decode cL_law 1304 = .ok (.if_icmp .eq 146, 3) := by decide +kernel
theorem dL_law_1307 : decode cL_law 1307 = .ok (.iconst 0, 1) := by decide +kernel
theorem dL_law_1308 : decode cL_law 1308 = .ok (.ireturn, 1) := by decide +kernel
theorem dL_law_1309 : decode cL_law 1309 = .ok (.aload_n 1, 1) := by decide +kernel
theorem dL_law_1310 : decode cL_law 1310 = .ok (.aload_n 0, 1) := by decide +kernel
theorem dL_law_1311 : decode cL_law 1311 = .ok (.iload_n 3, 1) := by decide +kernel
theorem dL_law_1312 : decode cL_law 1312 = .ok (.iconst 1, 1) := by decide +kernel
theorem dL_law_1313 : decode cL_law 1313 = .ok (.iadd, 1) := by decide +kernel
theorem dL_law_1314 : decode cL_law 1314 = .ok (.iaload, 1) := by decide +kernel
theorem dL_law_1315 : decode cL_law 1315 = .ok (.invokevirtual 174, 3) := by decide +kernel
theorem dL_law_1318 : decode cL_law 1318 = .ok (.aload_n 2, 1) := by decide +kernel
theorem dL_law_1319 : decode cL_law 1319 = .ok (.aload_n 0, 1) := by decide +kernel
theorem dL_law_1320 : decode cL_law 1320 = .ok (.iload_n 3, 1) := by decide +kernel
theorem dL_law_1321 : decode cL_law 1321 = .ok (.iconst 1, 1) := by decide +kernel
theorem dL_law_1322 : decode cL_law 1322 = .ok (.iadd, 1) := by decide +kernel
theorem dL_law_1323 : decode cL_law 1323 = .ok (.iaload, 1) := by decide +kernel
theorem dL_law_1324 : decode cL_law 1324 = .ok (.invokevirtual 177, 3) := by decide +kernel
theorem dL_law_1327 : decode cL_law 1327 = .ok (.if_icmp .eq 123, 3) := by decide +kernel
theorem dL_law_1330 : decode cL_law 1330 = .ok (.iconst 0, 1) := by decide +kernel
theorem dL_law_1331 : decode cL_law 1331 = .ok (.ireturn, 1) := by decide +kernel
theorem dL_law_1332 : decode cL_law 1332 = .ok (.aload_n 1, 1) := by decide +kernel
theorem dL_law_1333 : decode cL_law 1333 = .ok (.aload_n 0, 1) := by decide +kernel
theorem dL_law_1334 : decode cL_law 1334 = .ok (.iload_n 3, 1) := by decide +kernel
theorem dL_law_1335 : decode cL_law 1335 = .ok (.iconst 1, 1) := by decide +kernel
theorem dL_law_1336 : decode cL_law 1336 = .ok (.iadd, 1) := by decide +kernel
theorem dL_law_1337 : decode cL_law 1337 = .ok (.iaload, 1) := by decide +kernel
theorem dL_law_1338 : decode cL_law 1338 = .ok (.aload_n 0, 1) := by decide +kernel
theorem dL_law_1339 : decode cL_law 1339 = .ok (.iload_n 3, 1) := by decide +kernel
theorem dL_law_1340 : decode cL_law 1340 = .ok (.iconst 2, 1) := by decide +kernel
theorem dL_law_1341 : decode cL_law 1341 = .ok (.iadd, 1) := by decide +kernel
theorem dL_law_1342 : decode cL_law 1342 = .ok (.iaload, 1) := by decide +kernel
theorem dL_law_1343 : decode cL_law 1343 = .ok (.invokevirtual 178, 3) := by decide +kernel
theorem dL_law_1346 : decode cL_law 1346 = .ok (.aload_n 2, 1) := by decide +kernel
theorem dL_law_1347 : decode cL_law 1347 = .ok (.aload_n 0, 1) := by decide +kernel
theorem dL_law_1348 : decode cL_law 1348 = .ok (.iload_n 3, 1) := by decide +kernel
theorem dL_law_1349 : decode cL_law 1349 = .ok (.iconst 1, 1) := by decide +kernel
theorem dL_law_1350 : decode cL_law 1350 = .ok (.iadd, 1) := by decide +kernel
theorem dL_law_1351 : decode cL_law 1351 = .ok (.iaload, 1) := by decide +kernel
theorem dL_law_1352 : decode cL_law 1352 = .ok (.aload_n 0, 1) := by decide +kernel
theorem dL_law_1353 : decode cL_law 1353 = .ok (.iload_n 3, 1) := by decide +kernel
theorem dL_law_1354 : decode cL_law 1354 = .ok (.iconst 2, 1) := by decide +kernel
theorem dL_law_1355 : decode cL_law 1355 = .ok (.iadd, 1) := by decide +kernel
theorem dL_law_1356 : decode cL_law 1356 = .ok (.iaload, 1) := by decide +kernel
theorem dL_law_1357 : decode cL_law 1357 = .ok (.invokevirtual 181, 3) := by decide +kernel
theorem dL_law_1360 : decode cL_law 1360 = .ok (.if_icmp .eq 90, 3) := by decide +kernel
theorem dL_law_1363 : decode cL_law 1363 = .ok (.iconst 0, 1) := by decide +kernel
theorem dL_law_1364 : decode cL_law 1364 = .ok (.ireturn, 1) := by decide +kernel
theorem dL_law_1365 : decode cL_law 1365 = .ok (.aload_n 1, 1) := by decide +kernel
theorem dL_law_1366 : decode cL_law 1366 = .ok (.invokevirtual 182, 3) := by decide +kernel
theorem dL_law_1369 : decode cL_law 1369 = .ok (.aload_n 2, 1) := by decide +kernel
theorem dL_law_1370 : decode cL_law 1370 = .ok (.invokevirtual 185, 3) := by decide +kernel
theorem dL_law_1373 : decode cL_law 1373 = .ok (.if_icmp .eq 77, 3) := by decide +kernel
theorem dL_law_1376 : decode cL_law 1376 = .ok (.iconst 0, 1) := by decide +kernel
theorem dL_law_1377 : decode cL_law 1377 = .ok (.ireturn, 1) := by decide +kernel
theorem dL_law_1378 : decode cL_law 1378 = .ok (.aload_n 1, 1) := by decide +kernel
theorem dL_law_1379 : decode cL_law 1379 = .ok (.invokevirtual 186, 3) := by decide +kernel
theorem dL_law_1382 : decode cL_law 1382 = .ok (.aload_n 2, 1) := by decide +kernel
theorem dL_law_1383 : decode cL_law 1383 = .ok (.invokevirtual 189, 3) := by decide +kernel
theorem dL_law_1386 : decode cL_law 1386 = .ok (.if_icmp .eq 64, 3) := by decide +kernel
theorem dL_law_1389 : decode cL_law 1389 = .ok (.iconst 0, 1) := by decide +kernel
theorem dL_law_1390 : decode cL_law 1390 = .ok (.ireturn, 1) := by decide +kernel
theorem dL_law_1391 : decode cL_law 1391 = .ok (.aload_n 1, 1) := by decide +kernel
theorem dL_law_1392 : decode cL_law 1392 = .ok (.invokevirtual 190, 3) := by decide +kernel
theorem dL_law_1395 : decode cL_law 1395 = .ok (.aload_n 2, 1) := by decide +kernel
theorem dL_law_1396 : decode cL_law 1396 = .ok (.invokevirtual 193, 3) := by decide +kernel
theorem dL_law_1399 : decode cL_law 1399 = .ok (.if_icmp .eq 51, 3) := by decide +kernel
theorem dL_law_1402 : decode cL_law 1402 = .ok (.iconst 0, 1) := by decide +kernel
theorem dL_law_1403 : decode cL_law 1403 = .ok (.ireturn, 1) := by decide +kernel
theorem dL_law_1404 : decode cL_law 1404 = .ok (.aload_n 1, 1) := by decide +kernel
theorem dL_law_1405 : decode cL_law 1405 = .ok (.aload_n 0, 1) := by decide +kernel
theorem dL_law_1406 : decode cL_law 1406 = .ok (.iload_n 3, 1) := by decide +kernel
theorem dL_law_1407 : decode cL_law 1407 = .ok (.iconst 1, 1) := by decide +kernel
theorem dL_law_1408 : decode cL_law 1408 = .ok (.iadd, 1) := by decide +kernel
theorem dL_law_1409 : decode cL_law 1409 = .ok (.iaload, 1) := by decide +kernel
theorem dL_law_1410 : decode cL_law 1410 = .ok (.invokevirtual 194, 3) := by decide +kernel
theorem dL_law_1413 : decode cL_law 1413 = .ok (.aload_n 2, 1) := by decide +kernel
theorem dL_law_1414 : decode cL_law 1414 = .ok (.aload_n 0, 1) := by decide +kernel
theorem dL_law_1415 : decode cL_law 1415 = .ok (.iload_n 3, 1) := by decide +kernel
theorem dL_law_1416 : decode cL_law 1416 = .ok (.iconst 1, 1) := by decide +kernel
theorem dL_law_1417 : decode cL_law 1417 = .ok (.iadd, 1) := by decide +kernel
theorem dL_law_1418 : decode cL_law 1418 = .ok (.iaload, 1) := by decide +kernel
theorem dL_law_1419 : decode cL_law 1419 = .ok (.invokevirtual 197, 3) := by decide +kernel
theorem dL_law_1422 : decode cL_law 1422 = .ok (.if_icmp .eq 28, 3) := by decide +kernel
theorem dL_law_1425 : decode cL_law 1425 = .ok (.iconst 0, 1) := by decide +kernel
theorem dL_law_1426 : decode cL_law 1426 = .ok (.ireturn, 1) := by decide +kernel
theorem dL_law_1427 : decode cL_law 1427 = .ok (.aload_n 1, 1) := by decide +kernel
theorem dL_law_1428 : decode cL_law 1428 = .ok (.aload_n 0, 1) := by decide +kernel
theorem dL_law_1429 : decode cL_law 1429 = .ok (.iload_n 3, 1) := by decide +kernel
theorem dL_law_1430 : decode cL_law 1430 = .ok (.iconst 1, 1) := by decide +kernel
theorem dL_law_1431 : decode cL_law 1431 = .ok (.iadd, 1) := by decide +kernel
theorem dL_law_1432 : decode cL_law 1432 = .ok (.iaload, 1) := by decide +kernel
theorem dL_law_1433 : decode cL_law 1433 = .ok (.invokevirtual 198, 3) := by decide +kernel
theorem dL_law_1436 : decode cL_law 1436 = .ok (.aload_n 2, 1) := by decide +kernel
theorem dL_law_1437 : decode cL_law 1437 = .ok (.aload_n 0, 1) := by decide +kernel
theorem dL_law_1438 : decode cL_law 1438 = .ok (.iload_n 3, 1) := by decide +kernel
theorem dL_law_1439 : decode cL_law 1439 = .ok (.iconst 1, 1) := by decide +kernel
theorem dL_law_1440 : decode cL_law 1440 = .ok (.iadd, 1) := by decide +kernel
theorem dL_law_1441 : decode cL_law 1441 = .ok (.iaload, 1) := by decide +kernel
theorem dL_law_1442 : decode cL_law 1442 = .ok (.invokevirtual 201, 3) := by decide +kernel
theorem dL_law_1445 : decode cL_law 1445 = .ok (.if_icmp .eq 5, 3) := by decide +kernel
theorem dL_law_1448 : decode cL_law 1448 = .ok (.iconst 0, 1) := by decide +kernel
theorem dL_law_1449 : decode cL_law 1449 = .ok (.ireturn, 1) := by decide +kernel
theorem dL_law_1450 : decode cL_law 1450 = .ok (.iinc 3 6, 3) := by decide +kernel
theorem dL_law_1453 : decode cL_law 1453 = .ok (.goto (-1435), 3) := by decide +kernel
theorem dL_law_1456 : decode cL_law 1456 = .ok (.iconst 1, 1) := by decide +kernel
theorem dL_law_1457 : decode cL_law 1457 = .ok (.ireturn, 1) := by decide +kernel
end
section
/-! A memory of ints by cells and places; a shape that says which cells there are; the judgement G over it. -/
abbrev Mem : Type := Nat → Nat → Int32
abbrev ShE : Type := (Nat × List (Option Nat)) ⊕ (Nat ⊕ (Nat × List Nat))
abbrev Shp : Type := List ShE
/-- a method: name, bytes, locals, return type -/
abbrev MI : Type := MethodName × ByteArray × Nat × Option FieldType
/-- a value whose references are numbers of cells, as the machine has it -/
def tv (ad : Nat → Nat) (v : Value) : Value := match v with
  | .ref j => .ref (ad j)
  | v => v
def fvl (ad : Nat → Nat) (M : Mem) (j k : Nat) (f : Option Nat) : Value := match f with
  | none => .int (M j k)
  | some r => .ref (ad r)
def cel (cts : Nat → ClassId) (ad : Nat → Nat) (M : Mem) (j : Nat) (s : ShE) : va_E := match s with
  | .inl o => .inr (o.1, o.2.mapIdx (fun k f => fvl ad M j k f))
  | .inr (.inl n) => .inl (cts 0, n, .inl (M j))
  | .inr (.inr t) => .inl (cts t.1, t.2.length, .inr (.inr (.inr (.inr (fun k => (t.2[k]?).map ad)))))
def wld (cts : Nat → ClassId) (ad : Nat → Nat) (M : Mem) (sh : Shp) : va_W := sh.mapIdx (fun j s => (ad j, cel cts ad M j s))
def ups (M : Mem) (c i : Nat) (x : Int32) : Mem := fun c' i' => if c' = c ∧ i' = i then x else M c' i'
def aset (sh : Shp) (ad : Nat → Nat) : Nat → Prop := fun q => ∃ j, j < sh.length ∧ q = ad j
def Inj (sh : Shp) (ad : Nat → Nat) : Prop := ∀ i j, i < sh.length → j < sh.length → ad i = ad j → i = j
def tysOf (cts : Nat → ClassId) : List (ClassId × FieldType) := [(cts 0, .int), (cts 1, .object "java/lang/String"), (cts 2, .object "WarmWalls$Sheet")]
theorem tv_cat (ad : Nat → Nat) (v : Value) : (tv ad v).category = v.category := by cases v <;> rfl
theorem tv_tv (ad ι : Nat → Nat) (v : Value) : tv ad (tv ι v) = tv (fun j => ad (ι j)) v := by cases v <;> rfl
theorem wld_len (cts : Nat → ClassId) (ad : Nat → Nat) (M : Mem) (sh : Shp) : (wld cts ad M sh).length = sh.length := by simp [wld]
theorem wld_at {cts : Nat → ClassId} {ad : Nat → Nat} {M : Mem} {sh : Shp} {j : Nat} {s : ShE} (h : sh[j]? = some s) : (wld cts ad M sh)[j]? = some (ad j, cel cts ad M j s) := by
  simp [wld, List.getElem?_mapIdx, h]
theorem wld_inv {cts : Nat → ClassId} {ad : Nat → Nat} {M : Mem} {sh : Shp} {j : Nat} {q : Nat × va_E} (h : (wld cts ad M sh)[j]? = some q) : ∃ s, sh[j]? = some s ∧ q = (ad j, cel cts ad M j s) := by
  rw [wld, List.getElem?_mapIdx] at h
  cases hs : sh[j]? with
  | none => rw [hs] at h; cases h
  | some s => rw [hs] at h; exact ⟨s, rfl, (Option.some.inj h).symm⟩
theorem wld_D {cts : Nat → ClassId} {ad : Nat → Nat} {M : Mem} {sh : Shp} (h : Inj sh ad) : va_D (aset sh ad) (wld cts ad M sh) := by
  refine ⟨fun i j p q hp hq e => ?_, fun k q hq => ?_⟩
  · obtain ⟨s, hs, rfl⟩ := wld_inv hp
    obtain ⟨s', hs', rfl⟩ := wld_inv hq
    exact h i j (List.getElem?_eq_some_iff.mp hs).1 (List.getElem?_eq_some_iff.mp hs').1 e
  · obtain ⟨s, hs, rfl⟩ := wld_inv hq
    exact ⟨k, (List.getElem?_eq_some_iff.mp hs).1, rfl⟩
theorem ups_same (M : Mem) (c i : Nat) (x : Int32) : ups M c i x c i = x := if_pos ⟨rfl, rfl⟩
theorem ups_ne {M : Mem} {c i c' i' : Nat} {x : Int32} (h : ¬ (c' = c ∧ i' = i)) : ups M c i x c' i' = M c' i' := if_neg h
theorem ups_cell {M : Mem} {c i c' : Nat} {x : Int32} (h : c' ≠ c) : ups M c i x c' = M c' := by
  funext k
  exact if_neg (fun q => h q.1)
theorem cel_ne {cts : Nat → ClassId} {ad : Nat → Nat} {M M' : Mem} {j : Nat} (h : M' j = M j) (s : ShE) : cel cts ad M' j s = cel cts ad M j s := by
  rcases s with o | n | t
  · show (Sum.inr _ : va_E) = Sum.inr _
    congr 2
    congr 1
    funext k f
    cases f with
    | none => show Value.int _ = Value.int _; rw [h]
    | some r => rfl
  · show (Sum.inl _ : va_E) = Sum.inl _
    rw [h]
  · rfl
theorem wld_put {cts : Nat → ClassId} {ad : Nat → Nat} {M : Mem} {sh : Shp} {j ci k : Nat} {fs : List (Option Nat)} {x : Int32} (hs : sh[j]? = some (.inl (ci, fs))) (hf : fs[k]? = some none) :
    (wld cts ad M sh).set j (ad j, .inr (ci, (fs.mapIdx (fun k f => fvl ad M j k f)).set k (.int x))) = wld cts ad (ups M j k x) sh := by
  apply List.ext_getElem?
  intro i
  by_cases hi : i = j
  · subst hi
    have hl : i < (wld cts ad M sh).length := by rw [wld_len]; exact (List.getElem?_eq_some_iff.mp hs).1
    rw [List.getElem?_set_self hl, wld_at hs]
    congr 2
    show (Sum.inr _ : va_E) = Sum.inr _
    congr 2
    apply List.ext_getElem?
    intro n
    by_cases hn : n = k
    · subst hn
      have hl2 : n < (fs.mapIdx (fun k f => fvl ad M i k f)).length := by rw [List.length_mapIdx]; exact (List.getElem?_eq_some_iff.mp hf).1
      rw [List.getElem?_set_self hl2, List.getElem?_mapIdx, hf]
      show some (Value.int x) = some (Value.int _)
      rw [ups_same]
    · rw [List.getElem?_set_ne (fun q => hn q.symm), List.getElem?_mapIdx, List.getElem?_mapIdx]
      congr 1
      funext f
      cases f with
      | none =>
        show Value.int _ = Value.int _
        rw [ups_ne (fun q => hn q.2)]
      | some r => rfl
  · rw [List.getElem?_set_ne (fun q => hi q.symm)]
    rw [wld, wld, List.getElem?_mapIdx, List.getElem?_mapIdx]
    congr 1
    funext s
    rw [cel_ne (ups_cell hi) s]
theorem wld_st {cts : Nat → ClassId} {ad : Nat → Nat} {M : Mem} {sh : Shp} {j n k : Nat} {x : Int32} (hs : sh[j]? = some (.inr (.inl n))) :
    (wld cts ad M sh).set j (ad j, .inl (cts 0, n, .inl (upd (M j) k x))) = wld cts ad (ups M j k x) sh := by
  apply List.ext_getElem?
  intro i
  by_cases hi : i = j
  · subst hi
    have hl : i < (wld cts ad M sh).length := by rw [wld_len]; exact (List.getElem?_eq_some_iff.mp hs).1
    rw [List.getElem?_set_self hl, wld_at hs]
    congr 2
    show (Sum.inl _ : va_E) = Sum.inl _
    congr 3
    congr 1
    funext q
    by_cases hq : q = k
    · subst hq; rw [ups_same]; simp [upd]
    · rw [ups_ne (fun z => hq z.2)]; simp [upd, hq]
  · rw [List.getElem?_set_ne (fun q => hi q.symm)]
    rw [wld, wld, List.getElem?_mapIdx, List.getElem?_mapIdx]
    congr 1
    funext s
    rw [cel_ne (ups_cell hi) s]
/-! locals -/
def lvl (ad : Nat → Nat) : Nat → List (Option Value) → List (Nat × Value)
  | _, [] => []
  | i, none :: r => lvl ad (i + 1) r
  | i, some v :: r => (i, tv ad v) :: lvl ad (i + 1) r
theorem lvl_in {ad : Nat → Nat} : ∀ (ls : List (Option Value)) (i k : Nat) (v : Value), ls[k]? = some (some v) → (i + k, tv ad v) ∈ lvl ad i ls
  | [], _, _, _, h => by simp at h
  | none :: r, i, 0, v, h => by simp at h
  | none :: r, i, k + 1, v, h => by
    have := lvl_in (ad := ad) r (i + 1) k v (by simpa using h)
    rw [show i + (k + 1) = i + 1 + k by omega]
    exact this
  | some w :: r, i, 0, v, h => by
    have : w = v := by simpa using h
    subst this
    exact List.mem_cons_self
  | some w :: r, i, k + 1, v, h => by
    have := lvl_in (ad := ad) r (i + 1) k v (by simpa using h)
    rw [show i + (k + 1) = i + 1 + k by omega]
    exact List.mem_cons_of_mem _ this
theorem lvl_out {ad : Nat → Nat} : ∀ (ls : List (Option Value)) (i : Nat) (q : Nat × Value), q ∈ lvl ad i ls → ∃ k v, ls[k]? = some (some v) ∧ q = (i + k, tv ad v)
  | [], _, _, h => by cases h
  | none :: r, i, q, h => by
    obtain ⟨k, v, h1, h2⟩ := lvl_out r (i + 1) q h
    exact ⟨k + 1, v, by simpa using h1, by rw [h2, show i + 1 + k = i + (k + 1) by omega]⟩
  | some w :: r, i, q, h => by
    rcases List.mem_cons.mp h with h | h
    · exact ⟨0, w, by simp, by rw [h]; rfl⟩
    · obtain ⟨k, v, h1, h2⟩ := lvl_out r (i + 1) q h
      exact ⟨k + 1, v, by simpa using h1, by rw [h2, show i + 1 + k = i + (k + 1) by omega]⟩
def LH (ad : Nat → Nat) (lsA : Array Slot) (nL : Nat) (ls : List (Option Value)) : Prop := lv_has lsA nL (lvl ad 0 ls) ∧ ∀ (k : Nat) (v : Value), ls[k]? = some (some v) → v.category = 1
theorem LH.at {ad : Nat → Nat} {lsA : Array Slot} {nL : Nat} {ls : List (Option Value)} (h : LH ad lsA nL ls) {i : Nat} {v : Value} (hi : ls[i]? = some (some v)) : lsA[i]? = some (.val (tv ad v)) := by
  have := lvl_in (ad := ad) ls 0 i v hi
  rw [Nat.zero_add] at this
  exact h.1.2.2 _ this
theorem LH.set {ad : Nat → Nat} {lsA lsB : Array Slot} {nL : Nat} {ls : List (Option Value)} (h : LH ad lsA nL ls) {i : Nat} {v : Value} (hc : v.category = 1)
    (h2 : lv_has lsB nL ((i, tv ad v) :: (lvl ad 0 ls).filter (fun q => !(q.1 == i) && !(q.1 + 1 == i && q.2.category == 2)))) : LH ad lsB nL (ls.set i (some v)) := by
  have key : ∀ k w, (ls.set i (some v))[k]? = some (some w) → (k = i ∧ w = v) ∨ (k ≠ i ∧ ls[k]? = some (some w)) := by
    intro k w hk
    by_cases hki : k = i
    · subst hki
      have hl : k < (ls.set k (some v)).length := (List.getElem?_eq_some_iff.mp hk).1
      rw [List.length_set] at hl
      rw [List.getElem?_set_self hl] at hk
      exact Or.inl ⟨rfl, (Option.some.inj (Option.some.inj hk)).symm⟩
    · rw [List.getElem?_set_ne (fun q => hki q.symm)] at hk
      exact Or.inr ⟨hki, hk⟩
  refine ⟨⟨h2.1, h2.2.1, fun q hq => ?_⟩, fun k w hk => ?_⟩
  · obtain ⟨k, w, hk, rfl⟩ := lvl_out _ _ _ hq
    rw [Nat.zero_add]
    rcases key k w hk with ⟨rfl, rfl⟩ | ⟨hne, hk⟩
    · exact h2.2.2 _ List.mem_cons_self
    · refine h2.2.2 _ (List.mem_cons_of_mem _ (List.mem_filter.mpr ⟨by have := lvl_in (ad := ad) ls 0 k w hk; rwa [Nat.zero_add] at this, ?_⟩))
      have hcat : (tv ad w).category = 1 := by rw [tv_cat]; exact h.2 k w hk
      simp [hne, hcat]
  · rcases key k w hk with ⟨rfl, rfl⟩ | ⟨hne, hk⟩
    · exact hc
    · exact h.2 k w hk
theorem lvl_args (ad : Nat → Nat) : ∀ (as : List Value) (i n : Nat), (∀ v ∈ as, v.category = 1) → lvl ad i (as.map some ++ List.replicate n none) = lv_args i (as.map (tv ad))
  | [], i, n, _ => by
    show lvl ad i (List.replicate n none) = []
    induction n generalizing i with
    | zero => rfl
    | succ n ih => exact ih (i + 1)
  | v :: as, i, n, h => by
    have hv : ¬ (tv ad v).category = 2 := by rw [tv_cat, h v List.mem_cons_self]; decide
    show (i, tv ad v) :: lvl ad (i + 1) _ = (i, tv ad v) :: lv_args (if (tv ad v).category = 2 then i + 2 else i + 1) _
    rw [if_neg hv]
    exact congrArg (List.cons _) (lvl_args ad as (i + 1) n (fun w hw => h w (List.mem_cons_of_mem _ hw)))
theorem lg_sl_len : ∀ (as : List Value), (∀ v ∈ as, v.category = 1) → (lg_sl as).length = as.length
  | [], _ => rfl
  | v :: as, h => by
    have hv : ¬ v.category = 2 := by rw [h v List.mem_cons_self]; decide
    show ((if v.category = 2 then [Slot.val v, .second] else [.val v]) ++ lg_sl as).length = as.length + 1
    rw [if_neg hv, List.length_append, lg_sl_len as (fun w hw => h w (List.mem_cons_of_mem _ hw))]
    simp; omega
/-! what nobody writes: tables, a static number, the String constants -/
def tMost : List Int32 := [6, 300, 999, 20, 7, 1, 3, 24, 3]
def tLeast : List Int32 := [0, 0, 0, 1, 0, 0, 0, 0, 0]
def tAbove : List Int32 := [-1, 0, 0, 2, 1, 0, 2]
def strLen : List Nat := [4, 6, 4, 5, 7, 4, 8, 4, 4, 4, 5, 4, 6, 3]
def strByt : List (List Int32) := [[101, 118, 101, 110], [107, 105, 110, 100, 108, 121], [106, 117, 115, 116], [109, 105, 115, 101, 114], [115, 97, 105, 110, 116, 108, 121], [115, 108, 111, 119], [115, 112, 105, 116, 101, 102, 117, 108], [119, 97, 114, 109], [99, 111, 97, 108], [119, 97, 108, 108], [104, 101, 97, 116, 115], [97, 119, 97, 121], [100, 97, 109, 112, 101, 114], [111, 117, 116]]
def strRefs : List (String × Nat × String × Nat) := [("WarmWalls$TextReader", 54, "out", 13), ("WarmWalls$TextReader", 63, "damper", 12), ("WarmWalls$TextReader", 83, "away", 11), ("WarmWalls$TextReader", 107, "even", 0), ("WarmWalls$TextReader", 109, "kindly", 1), ("WarmWalls$TextReader", 111, "just", 2), ("WarmWalls$TextReader", 113, "miser", 3), ("WarmWalls$TextReader", 115, "saintly", 4), ("WarmWalls$TextReader", 117, "slow", 5), ("WarmWalls$TextReader", 119, "spiteful", 6), ("WarmWalls$TextReader", 121, "warm", 7), ("WarmWalls$TextReader", 123, "coal", 8), ("WarmWalls$TextReader", 125, "wall", 9), ("WarmWalls$TextReader", 127, "heats", 10), ("WarmWallsModel", 48, "even", 0), ("WarmWallsModel", 50, "kindly", 1), ("WarmWallsModel", 52, "just", 2), ("WarmWallsModel", 54, "miser", 3), ("WarmWallsModel", 56, "saintly", 4), ("WarmWallsModel", 58, "slow", 5), ("WarmWallsModel", 60, "spiteful", 6), ("WarmWallsModel", 66, "warm", 7), ("WarmWallsModel", 68, "coal", 8), ("WarmWallsModel", 70, "wall", 9), ("WarmWallsModel", 72, "heats", 10), ("WarmWallsModel", 318, "away", 11), ("WarmWallsModel", 320, "damper", 12), ("WarmWallsModel", 325, "out", 13)]
def tnm (t : Nat) : String := ["MOST", "LEAST", "ABOVE"].getD t ""
def tvl (t : Nat) : List Int32 := [tMost, tLeast, tAbove].getD t []
def nst (t : Nat) : Nat := [62, 65, 107].getD t 0
def SF (ad : Nat → Nat) (A : Nat → Prop) (U : State) (H : Heap) : Prop :=
  (∀ t, t < 3 → va_Z "WarmWalls" (tnm t) "[I" (.ref (ad (1000 + t))) A U H ∧ va_T .int (ad (1000 + t)) (tvl t).length (fun j => .int ((tvl t).getD j 0)) A U H) ∧
  va_Z "java/lang/String" "COMPACT_STRINGS" "Z" (.int 1) A U H ∧
  va_Zq "jdk/internal/util/Preconditions" "SIOOBE_FORMATTER" "Ljava/util/function/BiFunction;" A U H ∧
  (∃ adV : Nat → Nat, vk_S 14 strLen strByt (fun i => ad (1100 + i)) adV A U H) ∧
  (∀ q ∈ strRefs, vk_R q.1 q.2.1 q.2.2.1 (ad (1100 + q.2.2.2)) U) ∧
  (∀ t, t < 3 → va_Nw (.fieldLinkNest "WarmWalls$House" (nst t) "WarmWalls" (tnm t) "[I" "WarmWalls") U) ∧
  va_Nw (.methodLinkNest "WarmWalls$House" 110 yX4_isKind "WarmWalls") U
theorem SF.warm {ad : Nat → Nat} {A B : Nat → Prop} {s U : State} {H H1 : Heap} (h : SF ad A s H) (hW : s.WarmedH U.vm) (hq : ∀ a : Nat, a < H.size → ¬ A a → H1[a]? = H[a]?) (hAB : ∀ q, B q → A q) : SF ad B U H1 := by
  obtain ⟨a, d, e, ⟨adV, f⟩, g, n1, n2⟩ := h
  have hv := hW.alike
  refine ⟨fun t ht => ⟨(((a t ht).1.moved hv).kept hq).narrow hAB, (((a t ht).2.moved hv).kept hq).narrow hAB⟩, ((d.moved hv).kept hq).narrow hAB, ?_, ⟨adV, ((f.moved hv).kept hq).narrow hAB⟩, fun q hq => (g q hq).warm hW, fun t ht => (n1 t ht).warmF hW, n2.warmM hW⟩
  rcases e with e | ⟨t, e⟩
  · exact Or.inl (((e.moved hv).kept hq).narrow hAB)
  · exact Or.inr ⟨t, ((e.moved hv).kept hq).narrow hAB⟩
theorem SF.same {ad : Nat → Nat} {A : Nat → Prop} {s U : State} {H : Heap} (h : SF ad A s H) (hv : U.vm = s.vm) : SF ad A U H := by
  obtain ⟨a, d, e, ⟨adV, f⟩, g, n1, n2⟩ := h
  have hv2 : s.vm.Alike U.vm := by rw [hv]; exact Vm.Alike.refl _
  refine ⟨fun t ht => ⟨(a t ht).1.moved hv2, (a t ht).2.moved hv2⟩, d.moved hv2, ?_, ⟨adV, f.moved hv2⟩, fun q hq => (g q hq).same hv, fun t ht => (n1 t ht).same rfl hv.symm, n2.same rfl hv.symm⟩
  rcases e with e | ⟨t, e⟩
  · exact Or.inl (e.moved hv2)
  · exact Or.inr ⟨t, e.moved hv2⟩
/-! the room, the frame's constants, the judgements -/
def rmd (d : Nat) : Room := { frames := d, cells := 0, slots := 0, locals := 120 * d }
def WU (D : va_G) (cts : Nat → ClassId) (sh : Shp) (ad : Nat → Nat) (M : Mem) (U : State) : Prop :=
  va_K D vwCl (tysOf cts) U ∧ va_P D vwCl (wld cts ad M sh) U.heap ∧ Inj sh ad ∧ SF ad (aset sh ad) U U.heap
def QF (D : va_G) (cts : Nat → ClassId) (sh : Shp) (ad : Nat → Nat) (Q : Option Value → Mem → Prop) : Array Value → State → Outcome → State → Prop := fun _ st o t =>
  (∃ (v : Option Value) (M' : Mem), o = .returned (v.map (tv ad)) ∧ Q v M' ∧ va_P D vwCl (wld cts ad M' sh) t.heap) ∧ va_F (aset sh ad) st t
def CT (y : MI) (sh : Shp) (d : Nat) (as : List Value) (M : Mem) (Q : Option Value → Mem → Prop) : Prop :=
  ∀ (l : Launch) (D : va_G) (cts : Nat → ClassId) (ad : Nat → Nat), Met l y.1 (.code y.1 y.2.1 y.2.2.1 y.2.2.2 :: gtbl) (rmd d) (va_Pc (as.map (tv ad)) (WU D cts sh ad M)) (QF D cts sh ad Q) 0 0 (aset sh ad)
def FX (K : MI) (p : Program) (s : State) (m : MethodId) (args : Array Value) (meth : Method) (c : Code) : Prop :=
  p.tables.exec = Jvm.exec ∧ c.code = K.2.1 ∧ c.maxLocals = K.2.2.1 ∧ s.vm.findClass K.1.cls = some m.cls ∧ (∀ w ∈ gtbl, w.before args s = true) ∧ meth.sig.returnType = K.2.2.2 ∧ meth.locks = false
def GX (K : MI) (sh : Shp) (D : va_G) (cts : Nat → ClassId) (ad : Nat → Nat) (p : Program) (s : State) (m : MethodId) (args : Array Value) (meth : Method) (c : Code) : Prop :=
  FX K p s m args meth c ∧ va_K D vwCl (tysOf cts) s ∧ Inj sh ad ∧ SF ad (aset sh ad) s s.heap
def G (K : MI) (sh : Shp) (d : Nat) (Q : Option Value → Mem → Prop) (pc : Nat) (ls : List (Option Value)) (st : List Value) (M : Mem) : Prop :=
  ∀ ⦃p : Program⦄ ⦃l : Launch⦄ ⦃e : Env⦄ ⦃s : State⦄ ⦃m : MethodId⦄ ⦃args : Array Value⦄ ⦃below : List Frame⦄ ⦃meth : Method⦄ ⦃c : Code⦄ ⦃D : va_G⦄ ⦃cts : Nat → ClassId⦄ ⦃ad : Nat → Nat⦄ ⦃H : Heap⦄ ⦃locs : List Loc⦄ ⦃lsA : Array Slot⦄,
    GX K sh D cts ad p s m args meth c → va_P D vwCl (wld cts ad M sh) H → va_S (aset sh ad) s.heap H locs → LH ad lsA K.2.2.1 ls →
    W p l e (rmd d) s m args below meth c H locs 0 0 (MQ below (QF D cts sh ad Q) args s 0 0 (aset sh ad)) (F0 m pc lsA (st.map (tv ad)))
theorem CT.of {y : MI} {sh : Shp} {d : Nat} {as : List Value} {M : Mem} {Q : Option Value → Mem → Prop} (hy : plainName y.1.cls = true) (hlen : as.length ≤ y.2.2.1) (hcat : ∀ v ∈ as, v.category = 1)
    (g : G y sh d Q 0 (as.map some ++ List.replicate (y.2.2.1 - as.length) none) [] M) : CT y sh d as M Q := by
  intro l D cts ad
  refine Met.ofW (cc := y.2.1) (maxL := y.2.2.1) (ret := y.2.2.2) hy rfl ?_
  intro p e s m args below meth c s₁ B hml hv
  obtain ⟨rfl, hK, hP, hI, hF⟩ := hv
  have hts := atoms_spec (ws := .code y.1 y.2.1 y.2.2.1 y.2.2.2 :: gtbl) B.pre
  have hcat2 : ∀ v ∈ as.map (tv ad), v.category = 1 := by
    intro v hv
    obtain ⟨w, hw, rfl⟩ := List.mem_map.mp hv
    rw [tv_cat]
    exact hcat w hw
  have hl0 : (lg_sl (as.map (tv ad))).length ≤ y.2.2.1 := by rw [lg_sl_len _ hcat2, List.length_map]; exact hlen
  have hl := lv_entry (as.map (tv ad)) (n := y.2.2.1) hl0
  rw [lg_entry_eq]
  generalize (lg_sl (as.map (tv ad)) ++ List.replicate (y.2.2.1 - (lg_sl (as.map (tv ad))).length) Slot.unset).toArray = lsA at hl ⊢
  refine g (D := D) (cts := cts) (ad := ad) ⟨⟨B.exec, B.bytes, hml, findClass_of_methodNamed B.named, fun w hw => hts w (List.mem_cons_of_mem _ hw), B.returns, B.notSynchronized⟩, hK, hI, hF⟩ hP va_S.rf ⟨?_, ?_⟩
  · rw [lvl_args ad as 0 _ hcat]
    exact hl
  · intro k v hk
    rcases Nat.lt_or_ge k (as.map some).length with hlt | hge
    · rw [List.getElem?_append_left hlt, List.getElem?_map] at hk
      cases ha : as[k]? with
      | none => rw [ha] at hk; cases hk
      | some w =>
        rw [ha] at hk
        cases hk
        exact hcat _ (List.mem_of_getElem? ha)
    · rw [List.getElem?_append_right hge] at hk
      have := List.eq_of_mem_replicate (List.mem_of_getElem? hk)
      cases this
end
section
theorem tv_cats (ad : Nat → Nat) (st : List Value) : ((st.map (tv ad)).map fun v => v.category).sum = (st.map fun v => v.category).sum := by
  rw [List.map_map]
  congr 1
  apply List.map_congr_left
  intro v _
  exact tv_cat ad v
theorem wMaxS : Cond.static Lib.Math.max.name ∈ gtbl := tb_2 46 (by decide +kernel)
theorem wMinS : Cond.static Lib.Math.min.name ∈ gtbl := tb_1 209 (by decide +kernel)
theorem wMathI : Cond.initialized "java/lang/Math" ∈ gtbl := tb_1 8 (by decide +kernel)
theorem wSysI : Cond.initialized "java/lang/System" ∈ gtbl := tb_1 9 (by decide +kernel)
theorem wCopyN : Cond.native arraycopyName ∈ gtbl := tb_2 82 (by decide +kernel)
theorem wCopyS : Cond.static arraycopyName ∈ gtbl := tb_2 81 (by decide +kernel)
theorem wMaxC : Cond.code Lib.Math.max.name Lib.Math.max.code 2 (some .int) ∈ gtbl := tb_2 47 (by decide +kernel)
theorem wMinC : Cond.code Lib.Math.min.name Lib.Math.min.code 2 (some .int) ∈ gtbl := tb_1 210 (by decide +kernel)
/-! the rows of G: an instruction, a row -/
theorem G_pc {K : MI} {sh : Shp} {d : Nat} {Q : Option Value → Mem → Prop} {pc : Nat} {ls : List (Option Value)} {st : List Value} {M : Mem} (n : Nat) (h : pc = n) (k : G K sh d Q n ls st M) : G K sh d Q pc ls st M := h ▸ k
theorem G_mem {K : MI} {sh : Shp} {d : Nat} {Q : Option Value → Mem → Prop} {pc : Nat} {ls : List (Option Value)} {st : List Value} {M : Mem} {M2 : Mem} (h : M = M2) (k : G K sh d Q pc ls st M2) : G K sh d Q pc ls st M := h ▸ k
theorem G_st {K : MI} {sh : Shp} {d : Nat} {Q : Option Value → Mem → Prop} {pc : Nat} {ls : List (Option Value)} {st : List Value} {M : Mem} {st2 : List Value} (h : st = st2) (k : G K sh d Q pc ls st2 M) : G K sh d Q pc ls st M := h ▸ k
theorem G_ls {K : MI} {sh : Shp} {d : Nat} {Q : Option Value → Mem → Prop} {pc : Nat} {ls : List (Option Value)} {st : List Value} {M : Mem} {ls2 : List (Option Value)} (h : ls = ls2) (k : G K sh d Q pc ls2 st M) : G K sh d Q pc ls st M := h ▸ k
theorem G_iadd {K : MI} {sh : Shp} {d : Nat} {Q : Option Value → Mem → Prop} {pc : Nat} {ls : List (Option Value)} {st : List Value} {M : Mem} {x y : Int32} (hd : decode K.2.1 pc = .ok (.iadd, 1))  (k : G K sh d Q (pc + 1) ls (.int (x + y) :: st) M) : G K sh d Q pc ls (.int y :: .int x :: st) M := by
  intro p l e s m args below meth c D cts ad H locs lsA F hP hS hl
  exact lv_iadd F.1.1 F.1.2.1 hd (k F hP hS hl)
theorem G_isub {K : MI} {sh : Shp} {d : Nat} {Q : Option Value → Mem → Prop} {pc : Nat} {ls : List (Option Value)} {st : List Value} {M : Mem} {x y : Int32} (hd : decode K.2.1 pc = .ok (.isub, 1))  (k : G K sh d Q (pc + 1) ls (.int (x - y) :: st) M) : G K sh d Q pc ls (.int y :: .int x :: st) M := by
  intro p l e s m args below meth c D cts ad H locs lsA F hP hS hl
  exact lv_isub F.1.1 F.1.2.1 hd (k F hP hS hl)
theorem G_imul {K : MI} {sh : Shp} {d : Nat} {Q : Option Value → Mem → Prop} {pc : Nat} {ls : List (Option Value)} {st : List Value} {M : Mem} {x y : Int32} (hd : decode K.2.1 pc = .ok (.imul, 1))  (k : G K sh d Q (pc + 1) ls (.int (x * y) :: st) M) : G K sh d Q pc ls (.int y :: .int x :: st) M := by
  intro p l e s m args below meth c D cts ad H locs lsA F hP hS hl
  exact lv_imul F.1.1 F.1.2.1 hd (k F hP hS hl)
theorem G_iand {K : MI} {sh : Shp} {d : Nat} {Q : Option Value → Mem → Prop} {pc : Nat} {ls : List (Option Value)} {st : List Value} {M : Mem} {x y : Int32} (hd : decode K.2.1 pc = .ok (.iand, 1))  (k : G K sh d Q (pc + 1) ls (.int (x &&& y) :: st) M) : G K sh d Q pc ls (.int y :: .int x :: st) M := by
  intro p l e s m args below meth c D cts ad H locs lsA F hP hS hl
  exact lv_iand F.1.1 F.1.2.1 hd (k F hP hS hl)
theorem G_ior {K : MI} {sh : Shp} {d : Nat} {Q : Option Value → Mem → Prop} {pc : Nat} {ls : List (Option Value)} {st : List Value} {M : Mem} {x y : Int32} (hd : decode K.2.1 pc = .ok (.ior, 1))  (k : G K sh d Q (pc + 1) ls (.int (x ||| y) :: st) M) : G K sh d Q pc ls (.int y :: .int x :: st) M := by
  intro p l e s m args below meth c D cts ad H locs lsA F hP hS hl
  exact lv_ior F.1.1 F.1.2.1 hd (k F hP hS hl)
theorem G_ixor {K : MI} {sh : Shp} {d : Nat} {Q : Option Value → Mem → Prop} {pc : Nat} {ls : List (Option Value)} {st : List Value} {M : Mem} {x y : Int32} (hd : decode K.2.1 pc = .ok (.ixor, 1))  (k : G K sh d Q (pc + 1) ls (.int (x ^^^ y) :: st) M) : G K sh d Q pc ls (.int y :: .int x :: st) M := by
  intro p l e s m args below meth c D cts ad H locs lsA F hP hS hl
  exact lv_ixor F.1.1 F.1.2.1 hd (k F hP hS hl)
theorem G_ishl {K : MI} {sh : Shp} {d : Nat} {Q : Option Value → Mem → Prop} {pc : Nat} {ls : List (Option Value)} {st : List Value} {M : Mem} {x y : Int32} (hd : decode K.2.1 pc = .ok (.ishl, 1))  (k : G K sh d Q (pc + 1) ls (.int (x <<< (y &&& 31)) :: st) M) : G K sh d Q pc ls (.int y :: .int x :: st) M := by
  intro p l e s m args below meth c D cts ad H locs lsA F hP hS hl
  exact lv_ishl F.1.1 F.1.2.1 hd (k F hP hS hl)
theorem G_ishr {K : MI} {sh : Shp} {d : Nat} {Q : Option Value → Mem → Prop} {pc : Nat} {ls : List (Option Value)} {st : List Value} {M : Mem} {x y : Int32} (hd : decode K.2.1 pc = .ok (.ishr, 1))  (k : G K sh d Q (pc + 1) ls (.int (x >>> (y &&& 31)) :: st) M) : G K sh d Q pc ls (.int y :: .int x :: st) M := by
  intro p l e s m args below meth c D cts ad H locs lsA F hP hS hl
  exact lv_ishr F.1.1 F.1.2.1 hd (k F hP hS hl)
theorem G_iushr {K : MI} {sh : Shp} {d : Nat} {Q : Option Value → Mem → Prop} {pc : Nat} {ls : List (Option Value)} {st : List Value} {M : Mem} {x y : Int32} (hd : decode K.2.1 pc = .ok (.iushr, 1))  (k : G K sh d Q (pc + 1) ls (.int (x.toUInt32 >>> (y.toUInt32 &&& Int32.toUInt32 31)).toInt32 :: st) M) : G K sh d Q pc ls (.int y :: .int x :: st) M := by
  intro p l e s m args below meth c D cts ad H locs lsA F hP hS hl
  exact lv_iushr F.1.1 F.1.2.1 hd rfl (k F hP hS hl)
theorem G_idiv {K : MI} {sh : Shp} {d : Nat} {Q : Option Value → Mem → Prop} {pc : Nat} {ls : List (Option Value)} {st : List Value} {M : Mem} {x y : Int32} (hd : decode K.2.1 pc = .ok (.idiv, 1)) (hne : ¬ y = 0) (k : G K sh d Q (pc + 1) ls (.int (x / y) :: st) M) : G K sh d Q pc ls (.int y :: .int x :: st) M := by
  intro p l e s m args below meth c D cts ad H locs lsA F hP hS hl
  exact lv_idiv F.1.1 F.1.2.1 hd hne (k F hP hS hl)
theorem G_irem {K : MI} {sh : Shp} {d : Nat} {Q : Option Value → Mem → Prop} {pc : Nat} {ls : List (Option Value)} {st : List Value} {M : Mem} {x y : Int32} (hd : decode K.2.1 pc = .ok (.irem, 1)) (hne : ¬ y = 0) (k : G K sh d Q (pc + 1) ls (.int (x - x / y * y) :: st) M) : G K sh d Q pc ls (.int y :: .int x :: st) M := by
  intro p l e s m args below meth c D cts ad H locs lsA F hP hS hl
  exact lv_irem F.1.1 F.1.2.1 hd hne (k F hP hS hl)
theorem G_i2l {K : MI} {sh : Shp} {d : Nat} {Q : Option Value → Mem → Prop} {pc : Nat} {ls : List (Option Value)} {st : List Value} {M : Mem} {x : Int32} (hd : decode K.2.1 pc = .ok (.i2l, 1))  (k : G K sh d Q (pc + 1) ls (.long x.toInt64 :: st) M) : G K sh d Q pc ls (.int x :: st) M := by
  intro p l e s m args below meth c D cts ad H locs lsA F hP hS hl
  exact lv_i2l F.1.1 F.1.2.1 hd rfl (k F hP hS hl)
theorem G_i2b {K : MI} {sh : Shp} {d : Nat} {Q : Option Value → Mem → Prop} {pc : Nat} {ls : List (Option Value)} {st : List Value} {M : Mem} {x : Int32} (hd : decode K.2.1 pc = .ok (.i2b, 1))  (k : G K sh d Q (pc + 1) ls (.int x.toInt8.toInt32 :: st) M) : G K sh d Q pc ls (.int x :: st) M := by
  intro p l e s m args below meth c D cts ad H locs lsA F hP hS hl
  exact lv_i2b F.1.1 F.1.2.1 hd rfl (k F hP hS hl)
theorem G_i2s {K : MI} {sh : Shp} {d : Nat} {Q : Option Value → Mem → Prop} {pc : Nat} {ls : List (Option Value)} {st : List Value} {M : Mem} {x : Int32} (hd : decode K.2.1 pc = .ok (.i2s, 1))  (k : G K sh d Q (pc + 1) ls (.int x.toInt16.toInt32 :: st) M) : G K sh d Q pc ls (.int x :: st) M := by
  intro p l e s m args below meth c D cts ad H locs lsA F hP hS hl
  exact lv_i2s F.1.1 F.1.2.1 hd rfl (k F hP hS hl)
theorem G_ladd {K : MI} {sh : Shp} {d : Nat} {Q : Option Value → Mem → Prop} {pc : Nat} {ls : List (Option Value)} {st : List Value} {M : Mem} {x y : Int64} (hd : decode K.2.1 pc = .ok (.ladd, 1))  (k : G K sh d Q (pc + 1) ls (.long (x + y) :: st) M) : G K sh d Q pc ls (.long y :: .long x :: st) M := by
  intro p l e s m args below meth c D cts ad H locs lsA F hP hS hl
  exact lv_ladd F.1.1 F.1.2.1 hd (k F hP hS hl)
theorem G_lcmp {K : MI} {sh : Shp} {d : Nat} {Q : Option Value → Mem → Prop} {pc : Nat} {ls : List (Option Value)} {st : List Value} {M : Mem} {x y : Int64} (hd : decode K.2.1 pc = .ok (.lcmp, 1))  (k : G K sh d Q (pc + 1) ls (.int (lg_cmp x y) :: st) M) : G K sh d Q pc ls (.long y :: .long x :: st) M := by
  intro p l e s m args below meth c D cts ad H locs lsA F hP hS hl
  exact W.lcmp F.1.1 F.1.2.1 hd (k F hP hS hl)
theorem G_iconst {K : MI} {sh : Shp} {d : Nat} {Q : Option Value → Mem → Prop} {pc : Nat} {ls : List (Option Value)} {st : List Value} {M : Mem} {n : Int} {v : Int32} (hd : decode K.2.1 pc = .ok (.iconst n, 1)) (hv : Int32.ofInt n = v) (k : G K sh d Q (pc + 1) ls (.int v :: st) M) : G K sh d Q pc ls (st) M := by
  intro p l e s m args below meth c D cts ad H locs lsA F hP hS hl
  exact lv_iconst F.1.1 F.1.2.1 hd hv (k F hP hS hl)
theorem G_bipush {K : MI} {sh : Shp} {d : Nat} {Q : Option Value → Mem → Prop} {pc : Nat} {ls : List (Option Value)} {st : List Value} {M : Mem} {n : Int} {v : Int32} (hd : decode K.2.1 pc = .ok (.bipush n, 2)) (hv : (Int8.ofInt n).toInt32 = v) (k : G K sh d Q (pc + 2) ls (.int v :: st) M) : G K sh d Q pc ls (st) M := by
  intro p l e s m args below meth c D cts ad H locs lsA F hP hS hl
  exact lv_bipush F.1.1 F.1.2.1 hd hv (k F hP hS hl)
theorem G_sipush {K : MI} {sh : Shp} {d : Nat} {Q : Option Value → Mem → Prop} {pc : Nat} {ls : List (Option Value)} {st : List Value} {M : Mem} {n : Int} {v : Int32} (hd : decode K.2.1 pc = .ok (.sipush n, 3)) (hv : (Int16.ofInt n).toInt32 = v) (k : G K sh d Q (pc + 3) ls (.int v :: st) M) : G K sh d Q pc ls (st) M := by
  intro p l e s m args below meth c D cts ad H locs lsA F hP hS hl
  exact lv_sipush F.1.1 F.1.2.1 hd hv (k F hP hS hl)
theorem G_ldc {K : MI} {sh : Shp} {d : Nat} {Q : Option Value → Mem → Prop} {pc : Nat} {ls : List (Option Value)} {st : List Value} {M : Mem} {index : Nat} {v : Int32} (hd : decode K.2.1 pc = .ok (.ldc index, 2)) (hc : Jvm.Cond.constant K.1.cls index v ∈ gtbl) (k : G K sh d Q (pc + 2) ls (.int v :: st) M) : G K sh d Q pc ls (st) M := by
  intro p l e s m args below meth c D cts ad H locs lsA F hP hS hl
  exact lv_ldc F.1.1 F.1.2.1 F.1.2.2.2.1 (F.1.2.2.2.2.1 _ hc) hd (k F hP hS hl)
theorem G_ldcw {K : MI} {sh : Shp} {d : Nat} {Q : Option Value → Mem → Prop} {pc : Nat} {ls : List (Option Value)} {st : List Value} {M : Mem} {index : Nat} {v : Int32} (hd : decode K.2.1 pc = .ok (.ldc_w index, 3)) (hc : Jvm.Cond.constant K.1.cls index v ∈ gtbl) (k : G K sh d Q (pc + 3) ls (.int v :: st) M) : G K sh d Q pc ls (st) M := by
  intro p l e s m args below meth c D cts ad H locs lsA F hP hS hl
  exact lv_ldcw F.1.1 F.1.2.1 F.1.2.2.2.1 (F.1.2.2.2.2.1 _ hc) hd (k F hP hS hl)
theorem G_ldcs {K : MI} {sh : Shp} {d : Nat} {Q : Option Value → Mem → Prop} {pc : Nat} {ls : List (Option Value)} {st : List Value} {M : Mem} {index i : Nat} {tx : String} (hd : decode K.2.1 pc = .ok (.ldc index, 2)) (hc : (K.1.cls, index, tx, i) ∈ strRefs) (k : G K sh d Q (pc + 2) ls (.ref (1100 + i) :: st) M) : G K sh d Q pc ls (st) M := by
  intro p l e s m args below meth c D cts ad H locs lsA F hP hS hl
  exact va_ldcS F.1.1 F.1.2.1 F.1.2.2.2.1 (F.2.2.2.2.2.2.2.1 _ hc) hd (k F hP hS hl)
theorem G_null {K : MI} {sh : Shp} {d : Nat} {Q : Option Value → Mem → Prop} {pc : Nat} {ls : List (Option Value)} {st : List Value} {M : Mem}  (hd : decode K.2.1 pc = .ok (.aconst_null, 1))  (k : G K sh d Q (pc + 1) ls (.null :: st) M) : G K sh d Q pc ls (st) M := by
  intro p l e s m args below meth c D cts ad H locs lsA F hP hS hl
  exact lv_null F.1.1 F.1.2.1 hd (k F hP hS hl)
theorem G_iload_n {K : MI} {sh : Shp} {d : Nat} {Q : Option Value → Mem → Prop} {pc : Nat} {ls : List (Option Value)} {st : List Value} {M : Mem} {k : Fin 4} {i : Nat} {x : Int32} (hd : decode K.2.1 pc = .ok (.iload_n k, 1)) (hi : (k : Nat) = i) (hv : ls[i]? = some (some (.int x))) (kk : G K sh d Q (pc + 1) ls (.int x :: st) M) : G K sh d Q pc ls st M := by
  intro p l e s m args below meth c D cts ad H locs lsA F hP hS hl
  exact lv_iload_n F.1.1 F.1.2.1 hd hi (hl.at hv) (kk F hP hS hl)
theorem G_aload_n {K : MI} {sh : Shp} {d : Nat} {Q : Option Value → Mem → Prop} {pc : Nat} {ls : List (Option Value)} {st : List Value} {M : Mem} {k : Fin 4} {i : Nat} {x : Nat} (hd : decode K.2.1 pc = .ok (.aload_n k, 1)) (hi : (k : Nat) = i) (hv : ls[i]? = some (some (.ref x))) (kk : G K sh d Q (pc + 1) ls (.ref x :: st) M) : G K sh d Q pc ls st M := by
  intro p l e s m args below meth c D cts ad H locs lsA F hP hS hl
  exact lv_aload_n F.1.1 F.1.2.1 hd hi (hl.at hv) (kk F hP hS hl)
theorem G_aload_nN {K : MI} {sh : Shp} {d : Nat} {Q : Option Value → Mem → Prop} {pc : Nat} {ls : List (Option Value)} {st : List Value} {M : Mem} {k : Fin 4} {i : Nat} (hd : decode K.2.1 pc = .ok (.aload_n k, 1)) (hi : (k : Nat) = i) (hv : ls[i]? = some (some (.null))) (kk : G K sh d Q (pc + 1) ls (.null :: st) M) : G K sh d Q pc ls st M := by
  intro p l e s m args below meth c D cts ad H locs lsA F hP hS hl
  exact lv_aload_nN F.1.1 F.1.2.1 hd hi (hl.at hv) (kk F hP hS hl)
theorem G_istore_n {K : MI} {sh : Shp} {d : Nat} {Q : Option Value → Mem → Prop} {pc : Nat} {ls : List (Option Value)} {st : List Value} {M : Mem} {k : Fin 4} {i : Nat} {x : Int32} (hd : decode K.2.1 pc = .ok (.istore_n k, 1)) (hi : (k : Nat) = i) (hn : i < K.2.2.1) (kk : G K sh d Q (pc + 1) (ls.set i (some (.int x))) st M) : G K sh d Q pc ls (.int x :: st) M := by
  intro p l e s m args below meth c D cts ad H locs lsA F hP hS hl
  exact lv_istore_n F.1.1 F.1.2.1 hd hi hl.1 hn rfl (fun ls2 h2 => kk F hP hS (hl.set rfl h2))
theorem G_astore_n {K : MI} {sh : Shp} {d : Nat} {Q : Option Value → Mem → Prop} {pc : Nat} {ls : List (Option Value)} {st : List Value} {M : Mem} {k : Fin 4} {i : Nat} {x : Nat} (hd : decode K.2.1 pc = .ok (.astore_n k, 1)) (hi : (k : Nat) = i) (hn : i < K.2.2.1) (kk : G K sh d Q (pc + 1) (ls.set i (some (.ref x))) st M) : G K sh d Q pc ls (.ref x :: st) M := by
  intro p l e s m args below meth c D cts ad H locs lsA F hP hS hl
  exact lv_astore_n F.1.1 F.1.2.1 hd hi hl.1 hn rfl (fun ls2 h2 => kk F hP hS (hl.set (v := .ref x) rfl h2))
theorem G_astore_nN {K : MI} {sh : Shp} {d : Nat} {Q : Option Value → Mem → Prop} {pc : Nat} {ls : List (Option Value)} {st : List Value} {M : Mem} {k : Fin 4} {i : Nat} (hd : decode K.2.1 pc = .ok (.astore_n k, 1)) (hi : (k : Nat) = i) (hn : i < K.2.2.1) (kk : G K sh d Q (pc + 1) (ls.set i (some .null)) st M) : G K sh d Q pc ls (.null :: st) M := by
  intro p l e s m args below meth c D cts ad H locs lsA F hP hS hl
  exact lv_astore_nN F.1.1 F.1.2.1 hd hi hl.1 hn rfl (fun ls2 h2 => kk F hP hS (hl.set (v := .null) rfl h2))
theorem G_iload {K : MI} {sh : Shp} {d : Nat} {Q : Option Value → Mem → Prop} {pc : Nat} {ls : List (Option Value)} {st : List Value} {M : Mem} {i : Nat} {x : Int32} (hd : decode K.2.1 pc = .ok (.iload i, 2)) (hv : ls[i]? = some (some (.int x))) (kk : G K sh d Q (pc + 2) ls (.int x :: st) M) : G K sh d Q pc ls st M := by
  intro p l e s m args below meth c D cts ad H locs lsA F hP hS hl
  exact lv_iload F.1.1 F.1.2.1 hd (hl.at hv) (kk F hP hS hl)
theorem G_aload {K : MI} {sh : Shp} {d : Nat} {Q : Option Value → Mem → Prop} {pc : Nat} {ls : List (Option Value)} {st : List Value} {M : Mem} {i : Nat} {x : Nat} (hd : decode K.2.1 pc = .ok (.aload i, 2)) (hv : ls[i]? = some (some (.ref x))) (kk : G K sh d Q (pc + 2) ls (.ref x :: st) M) : G K sh d Q pc ls st M := by
  intro p l e s m args below meth c D cts ad H locs lsA F hP hS hl
  exact lv_aload F.1.1 F.1.2.1 hd (hl.at hv) (kk F hP hS hl)
theorem G_aloadN {K : MI} {sh : Shp} {d : Nat} {Q : Option Value → Mem → Prop} {pc : Nat} {ls : List (Option Value)} {st : List Value} {M : Mem} {i : Nat} (hd : decode K.2.1 pc = .ok (.aload i, 2)) (hv : ls[i]? = some (some (.null))) (kk : G K sh d Q (pc + 2) ls (.null :: st) M) : G K sh d Q pc ls st M := by
  intro p l e s m args below meth c D cts ad H locs lsA F hP hS hl
  exact lv_aloadN F.1.1 F.1.2.1 hd (hl.at hv) (kk F hP hS hl)
theorem G_istore {K : MI} {sh : Shp} {d : Nat} {Q : Option Value → Mem → Prop} {pc : Nat} {ls : List (Option Value)} {st : List Value} {M : Mem} {i : Nat} {x : Int32} (hd : decode K.2.1 pc = .ok (.istore i, 2)) (hn : i < K.2.2.1) (kk : G K sh d Q (pc + 2) (ls.set i (some (.int x))) st M) : G K sh d Q pc ls (.int x :: st) M := by
  intro p l e s m args below meth c D cts ad H locs lsA F hP hS hl
  exact lv_istore F.1.1 F.1.2.1 hd hl.1 hn rfl (fun ls2 h2 => kk F hP hS (hl.set rfl h2))
theorem G_astore {K : MI} {sh : Shp} {d : Nat} {Q : Option Value → Mem → Prop} {pc : Nat} {ls : List (Option Value)} {st : List Value} {M : Mem} {i : Nat} {x : Nat} (hd : decode K.2.1 pc = .ok (.astore i, 2)) (hn : i < K.2.2.1) (kk : G K sh d Q (pc + 2) (ls.set i (some (.ref x))) st M) : G K sh d Q pc ls (.ref x :: st) M := by
  intro p l e s m args below meth c D cts ad H locs lsA F hP hS hl
  exact lv_astore F.1.1 F.1.2.1 hd hl.1 hn rfl (fun ls2 h2 => kk F hP hS (hl.set (v := .ref x) rfl h2))
theorem G_astoreN {K : MI} {sh : Shp} {d : Nat} {Q : Option Value → Mem → Prop} {pc : Nat} {ls : List (Option Value)} {st : List Value} {M : Mem} {i : Nat} (hd : decode K.2.1 pc = .ok (.astore i, 2)) (hn : i < K.2.2.1) (kk : G K sh d Q (pc + 2) (ls.set i (some .null)) st M) : G K sh d Q pc ls (.null :: st) M := by
  intro p l e s m args below meth c D cts ad H locs lsA F hP hS hl
  exact lv_astoreN F.1.1 F.1.2.1 hd hl.1 hn rfl (fun ls2 h2 => kk F hP hS (hl.set (v := .null) rfl h2))
theorem G_iinc {K : MI} {sh : Shp} {d : Nat} {Q : Option Value → Mem → Prop} {pc : Nat} {ls : List (Option Value)} {st : List Value} {M : Mem} {i : Nat} {n : Int} {x v : Int32} (hd : decode K.2.1 pc = .ok (.iinc i n, 3)) (hn : i < K.2.2.1) (hx : ls[i]? = some (some (.int x))) (hv : x + Int32.ofInt n = v) (kk : G K sh d Q (pc + 3) (ls.set i (some (.int v))) st M) : G K sh d Q pc ls st M := by
  intro p l e s m args below meth c D cts ad H locs lsA F hP hS hl
  have hm : (i, tv ad (.int x)) ∈ lvl ad 0 ls := by
    have := lvl_in (ad := ad) ls 0 i _ hx
    rwa [Nat.zero_add] at this
  obtain ⟨k, hk⟩ := List.mem_iff_getElem?.mp hm
  exact lv_iinc F.1.1 F.1.2.1 hd hl.1 hk hv hn rfl (fun ls2 h2 => kk F hP hS (hl.set (v := .int v) rfl h2))
theorem G_iincN {K : MI} {sh : Shp} {d : Nat} {Q : Option Value → Mem → Prop} {pc : Nat} {ls : List (Option Value)} {st : List Value} {M : Mem} {i : Nat} {x : Nat} (hd : decode K.2.1 pc = .ok (.iinc i 1, 3)) (hn : i < K.2.2.1) (hx : ls[i]? = some (some (.int (nI x)))) (kk : G K sh d Q (pc + 3) (ls.set i (some (.int (nI (x + 1))))) st M) : G K sh d Q pc ls st M := G_iinc hd hn hx (nI_1 x) kk
theorem G_dup {K : MI} {sh : Shp} {d : Nat} {Q : Option Value → Mem → Prop} {pc : Nat} {ls : List (Option Value)} {st : List Value} {M : Mem} {v : Value} (hd : decode K.2.1 pc = .ok (.dup, 1)) (hv : v.category = 1) (k : G K sh d Q (pc + 1) ls (v :: v :: st) M) : G K sh d Q pc ls (v :: st) M := by
  intro p l e s m args below meth c D cts ad H locs lsA F hP hS hl
  exact lv_dup F.1.1 F.1.2.1 hd ((tv_cat ad v).trans hv) (k F hP hS hl)
theorem G_dup2 {K : MI} {sh : Shp} {d : Nat} {Q : Option Value → Mem → Prop} {pc : Nat} {ls : List (Option Value)} {st : List Value} {M : Mem} {v w : Value} (hd : decode K.2.1 pc = .ok (.dup2, 1)) (hv : v.category = 1) (hw : w.category = 1) (k : G K sh d Q (pc + 1) ls (v :: w :: v :: w :: st) M) : G K sh d Q pc ls (v :: w :: st) M := by
  intro p l e s m args below meth c D cts ad H locs lsA F hP hS hl
  exact lv_dup2_11 F.1.1 F.1.2.1 hd ((tv_cat ad v).trans hv) ((tv_cat ad w).trans hw) (k F hP hS hl)
theorem G_pop {K : MI} {sh : Shp} {d : Nat} {Q : Option Value → Mem → Prop} {pc : Nat} {ls : List (Option Value)} {st : List Value} {M : Mem} {v : Value} (hd : decode K.2.1 pc = .ok (.pop, 1)) (hv : v.category = 1) (k : G K sh d Q (pc + 1) ls st M) : G K sh d Q pc ls (v :: st) M := by
  intro p l e s m args below meth c D cts ad H locs lsA F hP hS hl
  exact lv_pop F.1.1 F.1.2.1 hd ((tv_cat ad v).trans hv) (k F hP hS hl)
theorem G_if_eq {K : MI} {sh : Shp} {d : Nat} {Q : Option Value → Mem → Prop} {pc : Nat} {ls : List (Option Value)} {st : List Value} {M : Mem} {x : Int32} {off : Int} {tgt : Nat} (hd : decode K.2.1 pc = .ok (.ifCond .eq off, 3)) (ht : (pc : Int) + off = (tgt : Int)) (kt : x = 0 → G K sh d Q tgt ls st M) (kf : ¬ x = 0 → G K sh d Q (pc + 3) ls st M) : G K sh d Q pc ls (.int x :: st) M := by
  intro p l e s m args below meth c D cts ad H locs lsA F hP hS hl
  exact lv_if_eq F.1.1 F.1.2.1 hd ht (fun q => kt q F hP hS hl) (fun q => kf q F hP hS hl)
theorem G_if_ne {K : MI} {sh : Shp} {d : Nat} {Q : Option Value → Mem → Prop} {pc : Nat} {ls : List (Option Value)} {st : List Value} {M : Mem} {x : Int32} {off : Int} {tgt : Nat} (hd : decode K.2.1 pc = .ok (.ifCond .ne off, 3)) (ht : (pc : Int) + off = (tgt : Int)) (kt : ¬ x = 0 → G K sh d Q tgt ls st M) (kf : x = 0 → G K sh d Q (pc + 3) ls st M) : G K sh d Q pc ls (.int x :: st) M := by
  intro p l e s m args below meth c D cts ad H locs lsA F hP hS hl
  exact lv_if_ne F.1.1 F.1.2.1 hd ht (fun q => kt q F hP hS hl) (fun q => kf q F hP hS hl)
theorem G_if_lt {K : MI} {sh : Shp} {d : Nat} {Q : Option Value → Mem → Prop} {pc : Nat} {ls : List (Option Value)} {st : List Value} {M : Mem} {x : Int32} {off : Int} {tgt : Nat} (hd : decode K.2.1 pc = .ok (.ifCond .lt off, 3)) (ht : (pc : Int) + off = (tgt : Int)) (kt : x < 0 → G K sh d Q tgt ls st M) (kf : ¬ x < 0 → G K sh d Q (pc + 3) ls st M) : G K sh d Q pc ls (.int x :: st) M := by
  intro p l e s m args below meth c D cts ad H locs lsA F hP hS hl
  exact lv_if_lt F.1.1 F.1.2.1 hd ht (fun q => kt q F hP hS hl) (fun q => kf q F hP hS hl)
theorem G_if_ge {K : MI} {sh : Shp} {d : Nat} {Q : Option Value → Mem → Prop} {pc : Nat} {ls : List (Option Value)} {st : List Value} {M : Mem} {x : Int32} {off : Int} {tgt : Nat} (hd : decode K.2.1 pc = .ok (.ifCond .ge off, 3)) (ht : (pc : Int) + off = (tgt : Int)) (kt : 0 ≤ x → G K sh d Q tgt ls st M) (kf : ¬ 0 ≤ x → G K sh d Q (pc + 3) ls st M) : G K sh d Q pc ls (.int x :: st) M := by
  intro p l e s m args below meth c D cts ad H locs lsA F hP hS hl
  exact lv_if_ge F.1.1 F.1.2.1 hd ht (fun q => kt q F hP hS hl) (fun q => kf q F hP hS hl)
theorem G_if_gt {K : MI} {sh : Shp} {d : Nat} {Q : Option Value → Mem → Prop} {pc : Nat} {ls : List (Option Value)} {st : List Value} {M : Mem} {x : Int32} {off : Int} {tgt : Nat} (hd : decode K.2.1 pc = .ok (.ifCond .gt off, 3)) (ht : (pc : Int) + off = (tgt : Int)) (kt : 0 < x → G K sh d Q tgt ls st M) (kf : ¬ 0 < x → G K sh d Q (pc + 3) ls st M) : G K sh d Q pc ls (.int x :: st) M := by
  intro p l e s m args below meth c D cts ad H locs lsA F hP hS hl
  exact lv_if_gt F.1.1 F.1.2.1 hd ht (fun q => kt q F hP hS hl) (fun q => kf q F hP hS hl)
theorem G_if_le {K : MI} {sh : Shp} {d : Nat} {Q : Option Value → Mem → Prop} {pc : Nat} {ls : List (Option Value)} {st : List Value} {M : Mem} {x : Int32} {off : Int} {tgt : Nat} (hd : decode K.2.1 pc = .ok (.ifCond .le off, 3)) (ht : (pc : Int) + off = (tgt : Int)) (kt : x ≤ 0 → G K sh d Q tgt ls st M) (kf : ¬ x ≤ 0 → G K sh d Q (pc + 3) ls st M) : G K sh d Q pc ls (.int x :: st) M := by
  intro p l e s m args below meth c D cts ad H locs lsA F hP hS hl
  exact lv_if_le F.1.1 F.1.2.1 hd ht (fun q => kt q F hP hS hl) (fun q => kf q F hP hS hl)
theorem G_icmp_eq {K : MI} {sh : Shp} {d : Nat} {Q : Option Value → Mem → Prop} {pc : Nat} {ls : List (Option Value)} {st : List Value} {M : Mem} {x y : Int32} {off : Int} {tgt : Nat} (hd : decode K.2.1 pc = .ok (.if_icmp .eq off, 3)) (ht : (pc : Int) + off = (tgt : Int)) (kt : x = y → G K sh d Q tgt ls st M) (kf : ¬ x = y → G K sh d Q (pc + 3) ls st M) : G K sh d Q pc ls (.int y :: .int x :: st) M := by
  intro p l e s m args below meth c D cts ad H locs lsA F hP hS hl
  exact lv_icmp_eq F.1.1 F.1.2.1 hd ht (fun q => kt q F hP hS hl) (fun q => kf q F hP hS hl)
theorem G_icmp_ne {K : MI} {sh : Shp} {d : Nat} {Q : Option Value → Mem → Prop} {pc : Nat} {ls : List (Option Value)} {st : List Value} {M : Mem} {x y : Int32} {off : Int} {tgt : Nat} (hd : decode K.2.1 pc = .ok (.if_icmp .ne off, 3)) (ht : (pc : Int) + off = (tgt : Int)) (kt : ¬ x = y → G K sh d Q tgt ls st M) (kf : x = y → G K sh d Q (pc + 3) ls st M) : G K sh d Q pc ls (.int y :: .int x :: st) M := by
  intro p l e s m args below meth c D cts ad H locs lsA F hP hS hl
  exact lv_icmp_ne F.1.1 F.1.2.1 hd ht (fun q => kt q F hP hS hl) (fun q => kf q F hP hS hl)
theorem G_icmp_lt {K : MI} {sh : Shp} {d : Nat} {Q : Option Value → Mem → Prop} {pc : Nat} {ls : List (Option Value)} {st : List Value} {M : Mem} {x y : Int32} {off : Int} {tgt : Nat} (hd : decode K.2.1 pc = .ok (.if_icmp .lt off, 3)) (ht : (pc : Int) + off = (tgt : Int)) (kt : x < y → G K sh d Q tgt ls st M) (kf : ¬ x < y → G K sh d Q (pc + 3) ls st M) : G K sh d Q pc ls (.int y :: .int x :: st) M := by
  intro p l e s m args below meth c D cts ad H locs lsA F hP hS hl
  exact lv_icmp_lt F.1.1 F.1.2.1 hd ht (fun q => kt q F hP hS hl) (fun q => kf q F hP hS hl)
theorem G_icmp_ge {K : MI} {sh : Shp} {d : Nat} {Q : Option Value → Mem → Prop} {pc : Nat} {ls : List (Option Value)} {st : List Value} {M : Mem} {x y : Int32} {off : Int} {tgt : Nat} (hd : decode K.2.1 pc = .ok (.if_icmp .ge off, 3)) (ht : (pc : Int) + off = (tgt : Int)) (kt : y ≤ x → G K sh d Q tgt ls st M) (kf : ¬ y ≤ x → G K sh d Q (pc + 3) ls st M) : G K sh d Q pc ls (.int y :: .int x :: st) M := by
  intro p l e s m args below meth c D cts ad H locs lsA F hP hS hl
  exact lv_icmp_ge F.1.1 F.1.2.1 hd ht (fun q => kt q F hP hS hl) (fun q => kf q F hP hS hl)
theorem G_icmp_gt {K : MI} {sh : Shp} {d : Nat} {Q : Option Value → Mem → Prop} {pc : Nat} {ls : List (Option Value)} {st : List Value} {M : Mem} {x y : Int32} {off : Int} {tgt : Nat} (hd : decode K.2.1 pc = .ok (.if_icmp .gt off, 3)) (ht : (pc : Int) + off = (tgt : Int)) (kt : y < x → G K sh d Q tgt ls st M) (kf : ¬ y < x → G K sh d Q (pc + 3) ls st M) : G K sh d Q pc ls (.int y :: .int x :: st) M := by
  intro p l e s m args below meth c D cts ad H locs lsA F hP hS hl
  exact lv_icmp_gt F.1.1 F.1.2.1 hd ht (fun q => kt q F hP hS hl) (fun q => kf q F hP hS hl)
theorem G_icmp_le {K : MI} {sh : Shp} {d : Nat} {Q : Option Value → Mem → Prop} {pc : Nat} {ls : List (Option Value)} {st : List Value} {M : Mem} {x y : Int32} {off : Int} {tgt : Nat} (hd : decode K.2.1 pc = .ok (.if_icmp .le off, 3)) (ht : (pc : Int) + off = (tgt : Int)) (kt : x ≤ y → G K sh d Q tgt ls st M) (kf : ¬ x ≤ y → G K sh d Q (pc + 3) ls st M) : G K sh d Q pc ls (.int y :: .int x :: st) M := by
  intro p l e s m args below meth c D cts ad H locs lsA F hP hS hl
  exact lv_icmp_le F.1.1 F.1.2.1 hd ht (fun q => kt q F hP hS hl) (fun q => kf q F hP hS hl)
theorem G_goto {K : MI} {sh : Shp} {d : Nat} {Q : Option Value → Mem → Prop} {pc : Nat} {ls : List (Option Value)} {st : List Value} {M : Mem} {off : Int} {tgt : Nat} (hd : decode K.2.1 pc = .ok (.goto off, 3)) (ht : (pc : Int) + off = (tgt : Int)) (k : G K sh d Q tgt ls st M) : G K sh d Q pc ls st M := by
  intro p l e s m args below meth c D cts ad H locs lsA F hP hS hl
  exact lv_goto F.1.1 F.1.2.1 hd ht (k F hP hS hl)
theorem G_ifnonnull {K : MI} {sh : Shp} {d : Nat} {Q : Option Value → Mem → Prop} {pc : Nat} {ls : List (Option Value)} {st : List Value} {M : Mem} {x : Nat} {off : Int} {tgt : Nat} (hd : decode K.2.1 pc = .ok (.ifnonnull off, 3)) (ht : (pc : Int) + off = (tgt : Int)) (k : G K sh d Q tgt ls st M) : G K sh d Q pc ls (.ref x :: st) M := by
  intro p l e s m args below meth c D cts ad H locs lsA F hP hS hl
  exact lv_ifnonnull F.1.1 F.1.2.1 hd ht (k F hP hS hl)
theorem G_ifnonnullN {K : MI} {sh : Shp} {d : Nat} {Q : Option Value → Mem → Prop} {pc : Nat} {ls : List (Option Value)} {st : List Value} {M : Mem} {off : Int} (hd : decode K.2.1 pc = .ok (.ifnonnull off, 3)) (k : G K sh d Q (pc + 3) ls st M) : G K sh d Q pc ls (.null :: st) M := by
  intro p l e s m args below meth c D cts ad H locs lsA F hP hS hl
  exact lv_ifnonnullN F.1.1 F.1.2.1 hd (k F hP hS hl)
theorem G_ifnull {K : MI} {sh : Shp} {d : Nat} {Q : Option Value → Mem → Prop} {pc : Nat} {ls : List (Option Value)} {st : List Value} {M : Mem} {x : Nat} {off : Int} (hd : decode K.2.1 pc = .ok (.ifnull off, 3)) (k : G K sh d Q (pc + 3) ls st M) : G K sh d Q pc ls (.ref x :: st) M := by
  intro p l e s m args below meth c D cts ad H locs lsA F hP hS hl
  exact lv_ifnull F.1.1 F.1.2.1 hd (k F hP hS hl)
theorem G_ifnullN {K : MI} {sh : Shp} {d : Nat} {Q : Option Value → Mem → Prop} {pc : Nat} {ls : List (Option Value)} {st : List Value} {M : Mem} {off : Int} {tgt : Nat} (hd : decode K.2.1 pc = .ok (.ifnull off, 3)) (ht : (pc : Int) + off = (tgt : Int)) (k : G K sh d Q tgt ls st M) : G K sh d Q pc ls (.null :: st) M := by
  intro p l e s m args below meth c D cts ad H locs lsA F hP hS hl
  exact lv_ifnullN F.1.1 F.1.2.1 hd ht (k F hP hS hl)
theorem G_tableIn {K : MI} {sh : Shp} {d : Nat} {Q : Option Value → Mem → Prop} {pc : Nat} {ls : List (Option Value)} {st : List Value} {M : Mem} {dflt lo hi : Int} {offs : Array Int} {len : Nat} {x : Int32} {off : Int} {tgt : Nat} (hd : decode K.2.1 pc = .ok (.tableswitch dflt lo hi offs, len)) (h1 : ¬ x.toInt < lo) (h2 : ¬ hi < x.toInt) (ho : offs[(x.toInt - lo).toNat]? = some off) (ht : (pc : Int) + off = (tgt : Int)) (k : G K sh d Q tgt ls st M) : G K sh d Q pc ls (.int x :: st) M := by
  intro p l e s m args below meth c D cts ad H locs lsA F hP hS hl
  exact lv_tableIn F.1.1 F.1.2.1 hd h1 h2 ho ht (k F hP hS hl)
theorem G_tableOut {K : MI} {sh : Shp} {d : Nat} {Q : Option Value → Mem → Prop} {pc : Nat} {ls : List (Option Value)} {st : List Value} {M : Mem} {dflt lo hi : Int} {offs : Array Int} {len : Nat} {x : Int32} {tgt : Nat} (hd : decode K.2.1 pc = .ok (.tableswitch dflt lo hi offs, len)) (h : x.toInt < lo ∨ hi < x.toInt) (ht : (pc : Int) + dflt = (tgt : Int)) (k : G K sh d Q tgt ls st M) : G K sh d Q pc ls (.int x :: st) M := by
  intro p l e s m args below meth c D cts ad H locs lsA F hP hS hl
  exact lv_tableOut F.1.1 F.1.2.1 hd h ht (k F hP hS hl)
/-! fields: FA says which field of which class a number of the pool is -/
def FA (own : String) (idx ci k : Nat) : Prop := ∃ (C : String) (T : u_T) (N : Nat) (ty : Nat → FieldType), vwCl[ci]? = some (C, T, N) ∧ (∀ w ∈ u_ws C T N, w ∈ gtbl) ∧ k < N ∧ Cond.fieldLink own idx (T k).1 (T k).2.1 (T k).2.2.1 ∈ gtbl ∧ (∀ k, k < N → parseFieldDescriptor (T k).2.2.1 = some (ty k)) ∧ (∀ a, a < N → ∀ b, b < N → a ≠ b → (T a).2.1 ≠ (T b).2.1)
/-- a field of that class that is written, of type ty -/
def FW (ci k : Nat) (ty : FieldType) : Prop := ∃ (C : String) (T : u_T) (N : Nat), vwCl[ci]? = some (C, T, N) ∧ (T k).2.2.2 = false ∧ parseFieldDescriptor (T k).2.2.1 = some ty
theorem G_getv {K : MI} {sh : Shp} {d : Nat} {Q : Option Value → Mem → Prop} {pc : Nat} {ls : List (Option Value)} {st : List Value} {M : Mem} {idx ci k j : Nat} {fs : List (Option Nat)} {f : Option Nat} (v : Value) (hv : ∀ ad, fvl ad M j k f = tv ad v) (fa : FA K.1.cls idx ci k) (hd : decode K.2.1 pc = .ok (.getfield idx, 3)) (hs : sh[j]? = some (.inl (ci, fs))) (hf : fs[k]? = some f) (kk : G K sh d Q (pc + 3) ls (v :: st) M) : G K sh d Q pc ls (.ref j :: st) M := by
  intro p l e s m args below meth c D cts ad H locs lsA F hP hS hl
  obtain ⟨C, T, N, ty, hc, hin, hk, hlink, hty, hnm⟩ := fa
  refine va_get F.1.1 F.1.2.1 F.1.2.2.2.2.1 hin F.1.2.2.2.1 F.2.1 hP j (fs := fs.mapIdx (fun k f => fvl ad M j k f)) (wld_at hs) hc k hk (F.1.2.2.2.2.1 _ hlink) (fun _ h => h) (v := tv ad v) ?_ hd (kk F hP hS hl)
  rw [List.getElem?_mapIdx, hf]
  exact congrArg some (hv ad)
theorem G_geti {K : MI} {sh : Shp} {d : Nat} {Q : Option Value → Mem → Prop} {pc : Nat} {ls : List (Option Value)} {st : List Value} {M : Mem} {idx ci k j : Nat} {fs : List (Option Nat)} (fa : FA K.1.cls idx ci k) (hd : decode K.2.1 pc = .ok (.getfield idx, 3)) (hs : sh[j]? = some (.inl (ci, fs))) (hf : fs[k]? = some none) (kk : G K sh d Q (pc + 3) ls (.int (M j k) :: st) M) : G K sh d Q pc ls (.ref j :: st) M := G_getv (.int (M j k)) (fun _ => rfl) fa hd hs hf kk
theorem G_getr {K : MI} {sh : Shp} {d : Nat} {Q : Option Value → Mem → Prop} {pc : Nat} {ls : List (Option Value)} {st : List Value} {M : Mem} {idx ci k j r : Nat} {fs : List (Option Nat)} (fa : FA K.1.cls idx ci k) (hd : decode K.2.1 pc = .ok (.getfield idx, 3)) (hs : sh[j]? = some (.inl (ci, fs))) (hf : fs[k]? = some (some r)) (kk : G K sh d Q (pc + 3) ls (.ref r :: st) M) : G K sh d Q pc ls (.ref j :: st) M := G_getv (.ref r) (fun _ => rfl) fa hd hs hf kk
theorem G_put {K : MI} {sh : Shp} {d : Nat} {Q : Option Value → Mem → Prop} {pc : Nat} {ls : List (Option Value)} {st : List Value} {M : Mem} {idx ci k j : Nat} {fs : List (Option Nat)} {x : Int32} {ty : FieldType} (fa : FA K.1.cls idx ci k) (fw : FW ci k ty) (hd : decode K.2.1 pc = .ok (.putfield idx, 3)) (hs : sh[j]? = some (.inl (ci, fs))) (hf : fs[k]? = some none) (hn : narrow ty (.int x) = .int x) (hfit : fits ty (.int x) = true) (kk : G K sh d Q (pc + 3) ls st (ups M j k x)) : G K sh d Q pc ls (.int x :: .ref j :: st) M := by
  intro p l e s m args below meth c D cts ad H locs lsA F hP hS hl
  obtain ⟨C, T, N, ty0, hc, hin, hk, hlink, hty, hnm⟩ := fa
  obtain ⟨C', T', N', hc', hfin, hpd⟩ := fw
  cases hc.symm.trans hc'
  refine va_put F.1.1 F.1.2.1 F.1.2.2.2.2.1 hin ty0 hty hnm F.1.2.2.2.1 F.2.1 hP (wld_D F.2.2.1) hS j (fs := fs.mapIdx (fun k f => fvl ad M j k f)) (wld_at hs) hc k hk (F.1.2.2.2.2.1 _ hlink) (fun _ h => h) hfin (v := .int x) hpd hn hfit (by rw [List.length_mapIdx]; exact (List.getElem?_eq_some_iff.mp hf).1) hd (fun H1 locs1 hP1 hD1 hS1 => ?_)
  rw [wld_put hs hf] at hP1
  exact kk F hP1 hS1 hl
theorem G_puti {K : MI} {sh : Shp} {d : Nat} {Q : Option Value → Mem → Prop} {pc : Nat} {ls : List (Option Value)} {st : List Value} {M : Mem} {idx ci k j : Nat} {fs : List (Option Nat)} {x : Int32} (fa : FA K.1.cls idx ci k) (fw : FW ci k .int) (hd : decode K.2.1 pc = .ok (.putfield idx, 3)) (hs : sh[j]? = some (.inl (ci, fs))) (hf : fs[k]? = some none) (kk : G K sh d Q (pc + 3) ls st (ups M j k x)) : G K sh d Q pc ls (.int x :: .ref j :: st) M := G_put fa fw hd hs hf rfl rfl kk
/-! arrays -/
theorem G_iald {K : MI} {sh : Shp} {d : Nat} {Q : Option Value → Mem → Prop} {pc : Nat} {ls : List (Option Value)} {st : List Value} {M : Mem} {j n : Nat} {i : Int32} (hs : sh[j]? = some (.inr (.inl n))) (hin : vp_in i n) (hd : decode K.2.1 pc = .ok (.iaload, 1)) (kk : G K sh d Q (pc + 1) ls (.int (M j i.toNatClampNeg) :: st) M) : G K sh d Q pc ls (.int i :: .ref j :: st) M := by
  intro p l e s m args below meth c D cts ad H locs lsA F hP hS hl
  exact va_iald F.1.1 F.1.2.1 F.2.1 hP j 0 (wld_at hs) rfl hin hd (kk F hP hS hl)
theorem G_iast {K : MI} {sh : Shp} {d : Nat} {Q : Option Value → Mem → Prop} {pc : Nat} {ls : List (Option Value)} {st : List Value} {M : Mem} {j n : Nat} {i x : Int32} (hs : sh[j]? = some (.inr (.inl n))) (hin : vp_in i n) (hd : decode K.2.1 pc = .ok (.iastore, 1)) (kk : G K sh d Q (pc + 1) ls st (ups M j i.toNatClampNeg x)) : G K sh d Q pc ls (.int x :: .int i :: .ref j :: st) M := by
  intro p l e s m args below meth c D cts ad H locs lsA F hP hS hl
  refine va_iast F.1.1 F.1.2.1 F.2.1 hP (wld_D F.2.2.1) hS j 0 (wld_at hs) rfl hin hd (fun H1 locs1 hP1 hD1 hS1 => ?_)
  rw [wld_st hs] at hP1
  exact kk F hP1 hS1 hl
theorem G_ld {K : MI} {sh : Shp} {d : Nat} {Q : Option Value → Mem → Prop} {pc : Nat} {ls : List (Option Value)} {st : List Value} {M : Mem} {j n : Nat} {i : Int32} (k : Nat) (hd : decode K.2.1 pc = .ok (.iaload, 1)) (hs : sh[j]? = some (.inr (.inl n))) (hi : i = nI k) (hk : k < n) (hn : n < 2147483648) (kk : G K sh d Q (pc + 1) ls (.int (M j k) :: st) M) : G K sh d Q pc ls (.int i :: .ref j :: st) M := by
  subst hi
  refine G_iald hs (vp_in_nI hk hn) hd ?_
  rw [nI_clamp (Nat.lt_trans hk hn)]
  exact kk
theorem G_sto {K : MI} {sh : Shp} {d : Nat} {Q : Option Value → Mem → Prop} {pc : Nat} {ls : List (Option Value)} {st : List Value} {M : Mem} {j n : Nat} {i x : Int32} (k : Nat) (hd : decode K.2.1 pc = .ok (.iastore, 1)) (hs : sh[j]? = some (.inr (.inl n))) (hi : i = nI k) (hk : k < n) (hn : n < 2147483648) (kk : G K sh d Q (pc + 1) ls st (ups M j k x)) : G K sh d Q pc ls (.int x :: .int i :: .ref j :: st) M := by
  subst hi
  refine G_iast hs (vp_in_nI hk hn) hd ?_
  rw [nI_clamp (Nat.lt_trans hk hn)]
  exact kk
theorem G_aald {K : MI} {sh : Shp} {d : Nat} {Q : Option Value → Mem → Prop} {pc : Nat} {ls : List (Option Value)} {st : List Value} {M : Mem} {j t r : Nat} {rs : List Nat} {i : Int32} (k : Nat) (hd : decode K.2.1 pc = .ok (.aaload, 1)) (hs : sh[j]? = some (.inr (.inr (t, rs)))) (hty : ∀ cts, ∃ C, (tysOf cts)[t]? = some (cts t, .object C)) (hi : i = nI k) (hr : rs[k]? = some r) (hn : rs.length < 2147483648) (kk : G K sh d Q (pc + 1) ls (.ref r :: st) M) : G K sh d Q pc ls (.int i :: .ref j :: st) M := by
  intro p l e s m args below meth c D cts ad H locs lsA F hP hS hl
  subst hi
  obtain ⟨C, hC⟩ := hty cts
  have hk : k < rs.length := (List.getElem?_eq_some_iff.mp hr).1
  refine va_aldq F.1.1 F.1.2.1 F.2.1 hP j t (wld_at hs) hC (vp_in_nI hk hn) hd ?_
  rw [nI_clamp (Nat.lt_trans hk hn), hr]
  exact kk F hP hS hl
theorem G_alen {K : MI} {sh : Shp} {d : Nat} {Q : Option Value → Mem → Prop} {pc : Nat} {ls : List (Option Value)} {st : List Value} {M : Mem} {j n : Nat} (hd : decode K.2.1 pc = .ok (.arraylength, 1)) (hs : sh[j]? = some (.inr (.inl n))) (kk : G K sh d Q (pc + 1) ls (.int (nI n) :: st) M) : G K sh d Q pc ls (.ref j :: st) M := by
  intro p l e s m args below meth c D cts ad H locs lsA F hP hS hl
  exact va_alen F.1.1 F.1.2.1 F.2.1 hP j 0 (wld_at hs) rfl rfl hd (kk F hP hS hl)
theorem G_alenR {K : MI} {sh : Shp} {d : Nat} {Q : Option Value → Mem → Prop} {pc : Nat} {ls : List (Option Value)} {st : List Value} {M : Mem} {j t : Nat} {rs : List Nat} (hd : decode K.2.1 pc = .ok (.arraylength, 1)) (hs : sh[j]? = some (.inr (.inr (t, rs)))) (hty : ∀ cts, ∃ C, (tysOf cts)[t]? = some (cts t, .object C)) (kk : G K sh d Q (pc + 1) ls (.int (nI rs.length) :: st) M) : G K sh d Q pc ls (.ref j :: st) M := by
  intro p l e s m args below meth c D cts ad H locs lsA F hP hS hl
  obtain ⟨C, hC⟩ := hty cts
  exact va_alen F.1.1 F.1.2.1 F.2.1 hP j t (wld_at hs) hC rfl hd (kk F hP hS hl)
/-! static tables -/
theorem G_gets {K : MI} {sh : Shp} {d : Nat} {Q : Option Value → Mem → Prop} {pc : Nat} {ls : List (Option Value)} {st : List Value} {M : Mem} {idx : Nat} (t : Nat) (ht : t < 3) (hlink : Cond.fieldLink K.1.cls idx "WarmWalls" (tnm t) "[I" ∈ gtbl) (hd : decode K.2.1 pc = .ok (.getstatic idx, 3)) (kk : G K sh d Q (pc + 3) ls (.ref (1000 + t) :: st) M) : G K sh d Q pc ls st M := by
  intro p l e s m args below meth c D cts ad H locs lsA F hP hS hl
  exact va_gets F.1.1 F.1.2.1 (F.2.2.2.1 t ht).1 hS F.1.2.2.2.1 (F.1.2.2.2.2.1 _ hlink) (fun _ h => h) hd (kk F hP hS hl)
theorem G_getsN {K : MI} {sh : Shp} {d : Nat} {Q : Option Value → Mem → Prop} {pc : Nat} {ls : List (Option Value)} {st : List Value} {M : Mem} {idx : Nat} (t : Nat) (ht : t < 3) (hlink : nst t = idx ∧ K.1.cls = "WarmWalls$House") (hd : decode K.2.1 pc = .ok (.getstatic idx, 3)) (kk : G K sh d Q (pc + 3) ls (.ref (1000 + t) :: st) M) : G K sh d Q pc ls st M := by
  intro p l e s m args below meth c D cts ad H locs lsA F hP hS hl
  obtain ⟨rfl, hcls⟩ := hlink
  have ho := F.1.2.2.2.1
  rw [hcls] at ho
  exact va_getsN F.1.1 F.1.2.1 (F.2.2.2.1 t ht).1 hS ho (va_Nw.use rfl (F.2.2.2.2.2.2.2.2.1 t ht)) (fun _ h => h) hd (kk F hP hS hl)
theorem G_tld {K : MI} {sh : Shp} {d : Nat} {Q : Option Value → Mem → Prop} {pc : Nat} {ls : List (Option Value)} {st : List Value} {M : Mem} {i : Int32} (t k : Nat) (ht : t < 3) (hd : decode K.2.1 pc = .ok (.iaload, 1)) (hi : i = nI k) (hk : k < (tvl t).length) (hn : (tvl t).length < 2147483648) (kk : G K sh d Q (pc + 1) ls (.int ((tvl t).getD k 0) :: st) M) : G K sh d Q pc ls (.int i :: .ref (1000 + t) :: st) M := by
  intro p l e s m args below meth c D cts ad H locs lsA F hP hS hl
  subst hi
  exact va_ti F.1.1 F.1.2.1 (F.2.2.2.1 t ht).2 hS (vp_in_nI hk hn) (by rw [nI_clamp (Nat.lt_trans hk hn)]; rfl) hd (kk F hP hS hl)
/-! ends -/
theorem G_iret {K : MI} {sh : Shp} {d : Nat} {Q : Option Value → Mem → Prop} {pc : Nat} {ls : List (Option Value)} {st : List Value} {M : Mem} {x : Int32} (hd : decode K.2.1 pc = .ok (.ireturn, 1)) (hr : K.2.2.2 = some .int) (hQ : Q (some (.int x)) M) : G K sh d Q pc ls [.int x] M := by
  intro p l e s m args below meth c D cts ad H locs lsA F hP hS hl
  exact W.iret F.1.1 F.1.2.1 (F.1.2.2.2.2.2.1.trans hr) (fun t ht _ => ⟨⟨some (.int x), M, rfl, hQ, by rw [ht]; exact hP⟩, hS.F ht⟩) hS.2.2 hd F.1.2.2.2.2.2.2
theorem G_zret {K : MI} {sh : Shp} {d : Nat} {Q : Option Value → Mem → Prop} {pc : Nat} {ls : List (Option Value)} {st : List Value} {M : Mem} {x : Int32} (hd : decode K.2.1 pc = .ok (.ireturn, 1)) (hr : K.2.2.2 = some .boolean) (hn : narrow .boolean (.int x) = .int x) (hQ : Q (some (.int x)) M) : G K sh d Q pc ls [.int x] M := by
  intro p l e s m args below meth c D cts ad H locs lsA F hP hS hl
  exact W.zret F.1.1 F.1.2.1 (F.1.2.2.2.2.2.1.trans hr) hn (fun t ht _ => ⟨⟨some (.int x), M, rfl, hQ, by rw [ht]; exact hP⟩, hS.F ht⟩) hS.2.2 hd F.1.2.2.2.2.2.2
theorem G_vret {K : MI} {sh : Shp} {d : Nat} {Q : Option Value → Mem → Prop} {pc : Nat} {ls : List (Option Value)} {st : List Value} {M : Mem} (hd : decode K.2.1 pc = .ok (.return_, 1)) (hr : K.2.2.2 = none) (hQ : Q none M) : G K sh d Q pc ls [] M := by
  intro p l e s m args below meth c D cts ad H locs lsA F hP hS hl
  exact W.vret F.1.1 F.1.2.1 (F.1.2.2.2.2.2.1.trans hr) (fun t ht _ => ⟨⟨none, M, rfl, hQ, by rw [ht]; exact hP⟩, hS.F ht⟩) hS.2.2 hd F.1.2.2.2.2.2.2
theorem G_aret {K : MI} {sh : Shp} {d : Nat} {Q : Option Value → Mem → Prop} {pc : Nat} {ls : List (Option Value)} {st : List Value} {M : Mem} {x : Nat} (hd : decode K.2.1 pc = .ok (.areturn, 1)) (hr : ∃ rt, K.2.2.2 = some rt ∧ ((∃ n, rt = .object n) ∨ ∃ t, rt = .array t)) (hQ : Q (some (.ref x)) M) : G K sh d Q pc ls [.ref x] M := by
  intro p l e s m args below meth c D cts ad H locs lsA F hP hS hl
  obtain ⟨rt, hr1, hr2⟩ := hr
  exact W.aret F.1.1 F.1.2.1 (F.1.2.2.2.2.2.1.trans hr1) hr2 (Or.inr ⟨_, rfl⟩) (fun t ht _ => ⟨⟨some (.ref x), M, rfl, hQ, by rw [ht]; exact hP⟩, hS.F ht⟩) hS.2.2 hd F.1.2.2.2.2.2.2
theorem G_aretN {K : MI} {sh : Shp} {d : Nat} {Q : Option Value → Mem → Prop} {pc : Nat} {ls : List (Option Value)} {st : List Value} {M : Mem} (hd : decode K.2.1 pc = .ok (.areturn, 1)) (hr : ∃ rt, K.2.2.2 = some rt ∧ ((∃ n, rt = .object n) ∨ ∃ t, rt = .array t)) (hQ : Q (some .null) M) : G K sh d Q pc ls [.null] M := by
  intro p l e s m args below meth c D cts ad H locs lsA F hP hS hl
  obtain ⟨rt, hr1, hr2⟩ := hr
  exact W.aret F.1.1 F.1.2.1 (F.1.2.2.2.2.2.1.trans hr1) hr2 (Or.inl rfl) (fun t ht _ => ⟨⟨some .null, M, rfl, hQ, by rw [ht]; exact hP⟩, hS.F ht⟩) hS.2.2 hd F.1.2.2.2.2.2.2
/-! Math, arraycopy -/
theorem G_max {K : MI} {sh : Shp} {d : Nat} {Q : Option Value → Mem → Prop} {pc : Nat} {ls : List (Option Value)} {st : List Value} {M : Mem} {idx : Nat} {x y : Int32} (hlink : Cond.methodLink K.1.cls idx Lib.Math.max.name ∈ gtbl) (hd : decode K.2.1 pc = .ok (.invokestatic idx, 3)) (hd1 : 1 ≤ d) (hst : (st.map fun v => v.category).sum ≤ 8) (kk : G K sh d Q (pc + 3) ls (.int (if x < y then y else x) :: st) M) : G K sh d Q pc ls (.int y :: .int x :: st) M := by
  intro p l e s m args below meth c D cts ad H locs lsA F hP hS hl
  refine va_mmax F.1.1 F.1.2.1 (F.1.2.2.1.trans hl.1.1.symm) F.1.2.2.2.1 (F.1.2.2.2.2.1 _ hlink) (F.1.2.2.2.2.1 _ wMaxS) (F.1.2.2.2.2.1 _ wMathI) (F.1.2.2.2.2.1 _ wMaxC) hd1 ?_ (Nat.le_refl 0) (Nat.le_refl 0) hd (kk F hP hS hl)
  rw [tv_cats]
  show _ + 13 ≤ 120 * d
  omega
theorem G_min {K : MI} {sh : Shp} {d : Nat} {Q : Option Value → Mem → Prop} {pc : Nat} {ls : List (Option Value)} {st : List Value} {M : Mem} {idx : Nat} {x y : Int32} (hlink : Cond.methodLink K.1.cls idx Lib.Math.min.name ∈ gtbl) (hd : decode K.2.1 pc = .ok (.invokestatic idx, 3)) (hd1 : 1 ≤ d) (hst : (st.map fun v => v.category).sum ≤ 8) (kk : G K sh d Q (pc + 3) ls (.int (if y < x then y else x) :: st) M) : G K sh d Q pc ls (.int y :: .int x :: st) M := by
  intro p l e s m args below meth c D cts ad H locs lsA F hP hS hl
  refine va_mmin F.1.1 F.1.2.1 (F.1.2.2.1.trans hl.1.1.symm) F.1.2.2.2.1 (F.1.2.2.2.2.1 _ hlink) (F.1.2.2.2.2.1 _ wMinS) (F.1.2.2.2.2.1 _ wMathI) (F.1.2.2.2.2.1 _ wMinC) hd1 ?_ (Nat.le_refl 0) (Nat.le_refl 0) hd (kk F hP hS hl)
  rw [tv_cats]
  show _ + 13 ≤ 120 * d
  omega
def cpyM (M : Mem) (j0 j1 n : Nat) : Mem := fun c i => if c = j1 ∧ i < n then M j0 i else M c i
theorem wld_cpy {cts : Nat → ClassId} {ad : Nat → Nat} {M : Mem} {sh : Shp} {j0 j1 n n1 : Nat} (hs : sh[j1]? = some (.inr (.inl n1))) :
    (wld cts ad M sh).set j1 (ad j1, .inl (cts 0, n1, .inl (va_cpy (M j0) (M j1) 0 0 n))) = wld cts ad (cpyM M j0 j1 n) sh := by
  apply List.ext_getElem?
  intro i
  by_cases hi : i = j1
  · subst hi
    have hl : i < (wld cts ad M sh).length := by rw [wld_len]; exact (List.getElem?_eq_some_iff.mp hs).1
    rw [List.getElem?_set_self hl, wld_at hs]
    congr 2
    show (Sum.inl _ : va_E) = Sum.inl _
    congr 3
    congr 1
    funext q
    unfold va_cpy cpyM
    by_cases hq : q < n
    · rw [if_pos ⟨Nat.zero_le _, by omega⟩, if_pos ⟨rfl, hq⟩]
      congr 1
      omega
    · rw [if_neg (by omega), if_neg (by omega)]
  · rw [List.getElem?_set_ne (fun q => hi q.symm)]
    rw [wld, wld, List.getElem?_mapIdx, List.getElem?_mapIdx]
    congr 1
    funext s
    have : cpyM M j0 j1 n i = M i := by
      funext q
      exact if_neg (fun z => hi z.1)
    rw [cel_ne this s]
theorem G_copy {K : MI} {sh : Shp} {d : Nat} {Q : Option Value → Mem → Prop} {pc : Nat} {ls : List (Option Value)} {st : List Value} {M : Mem} {idx j0 j1 n0 n1 : Nat} {x : Int32} (n : Nat) (hx : x = nI n) (hlink : Cond.methodLink K.1.cls idx arraycopyName ∈ gtbl) (hd : decode K.2.1 pc = .ok (.invokestatic idx, 3)) (hs0 : sh[j0]? = some (.inr (.inl n0))) (hs1 : sh[j1]? = some (.inr (.inl n1))) (h0 : n ≤ n0) (h1 : n ≤ n1) (hn : n < 2147483648) (hd1 : 1 ≤ d) (hst : (st.map fun v => v.category).sum ≤ 8) (kk : G K sh d Q (pc + 3) ls st (cpyM M j0 j1 n)) : G K sh d Q pc ls (.int x :: .int 0 :: .ref j1 :: .int 0 :: .ref j0 :: st) M := by
  intro p l e s m args below meth c D cts ad H locs lsA F hP hS hl
  subst hx
  have hcl := nI_clamp hn
  refine va_copyi F.1.1 F.1.2.1 (F.1.2.2.1.trans hl.1.1.symm) F.1.2.2.2.1 (F.1.2.2.2.2.1 _ hlink) (F.1.2.2.2.2.1 _ wCopyN) (F.1.2.2.2.2.1 _ wCopyS) (F.1.2.2.2.2.1 _ wSysI) F.2.1 hP (wld_D F.2.2.1) hS j0 j1 0 0 (ty := .int) (wld_at hs0) (wld_at hs1) rfl rfl rfl (by decide) (by decide) (nI_pos hn) ?_ ?_ (fun i hi => rfl) hd1 ?_ hd (fun H1 locs1 hP1 hD1 hS1 => ?_)
  · rw [hcl]; show 0 + n ≤ n0; omega
  · rw [hcl]; show 0 + n ≤ n1; omega
  · rw [tv_cats]
    have : nativeFrameWords "java/lang/System" "arraycopy" 5 + 11 ≤ 100 := by decide
    show _ + _ ≤ 120 * d
    omega
  · rw [hcl] at hP1
    have h := wld_cpy (cts := cts) (ad := ad) (M := M) (sh := sh) (j0 := j0) (n := n) hs1
    exact kk F (h ▸ hP1) hS1 hl
end
section
/-! calls: a callee's world is part of the caller's, by a map of the cells -/
def mapE (ι : Nat → Nat) (s : ShE) : ShE := match s with
  | .inl o => .inl (o.1, o.2.map (Option.map ι))
  | .inr (.inl n) => .inr (.inl n)
  | .inr (.inr t) => .inr (.inr (t.1, t.2.map ι))
/-- sh' lies in sh by ι -/
def Sub (sh' : Shp) (ι : Nat → Nat) (sh : Shp) : Prop := (∀ k, k < sh'.length → sh[ι k]? = (sh'[k]?).map (mapE ι)) ∧ (∀ i j, i < sh'.length → j < sh'.length → ι i = ι j → i = j) ∧ ∀ j, 1000 ≤ j → ι j = j
/-- what the caller's memory is behind the call -/
def Mrg (n' : Nat) (ι : Nat → Nat) (n : Nat) (M M' M2 : Mem) : Prop := (∀ j, j < n' → M2 (ι j) = M' j) ∧ ∀ c, c < n → (∀ j, j < n' → ι j ≠ c) → M2 c = M c
theorem cel_map {cts : Nat → ClassId} {ad ι : Nat → Nat} {M M' : Mem} {k : Nat} (h : M (ι k) = M' k) (s : ShE) : cel cts ad M (ι k) (mapE ι s) = cel cts (fun j => ad (ι j)) M' k s := by
  rcases s with o | n | t
  · show (Sum.inr _ : va_E) = Sum.inr _
    congr 2
    show List.mapIdx _ (o.2.map (Option.map ι)) = _
    apply List.ext_getElem?
    intro i
    rw [List.getElem?_mapIdx, List.getElem?_mapIdx, List.getElem?_map]
    cases o.2[i]? with
    | none => rfl
    | some f =>
      cases f with
      | none => show some (Value.int _) = some (Value.int _); rw [h]
      | some r => rfl
  · show (Sum.inl _ : va_E) = Sum.inl _
    rw [h]
  · show (Sum.inl _ : va_E) = Sum.inl _
    have h1 : (t.2.map ι).length = t.2.length := List.length_map ..
    have h2 : (fun k : Nat => ((t.2.map ι)[k]?).map ad) = (fun k : Nat => (t.2[k]?).map (fun j => ad (ι j))) := by
      funext k
      rw [List.getElem?_map]
      cases t.2[k]? <;> rfl
    show Sum.inl (cts t.1, (t.2.map ι).length, Sum.inr (Sum.inr (Sum.inr (Sum.inr (fun k => ((t.2.map ι)[k]?).map ad))))) = _
    rw [h1, h2]
theorem Sub.lt {sh' sh : Shp} {ι : Nat → Nat} (h : Sub sh' ι sh) {k : Nat} (hk : k < sh'.length) : ι k < sh.length := by
  have h1 := h.1 k hk
  rw [List.getElem?_eq_getElem hk] at h1
  exact (List.getElem?_eq_some_iff.mp h1).1
theorem Sub.asub {sh' sh : Shp} {ι ad : Nat → Nat} (h : Sub sh' ι sh) : ∀ q, aset sh' (fun j => ad (ι j)) q → aset sh ad q := by
  rintro q ⟨j, hj, rfl⟩
  exact ⟨ι j, h.lt hj, rfl⟩
theorem Sub.inj {sh' sh : Shp} {ι ad : Nat → Nat} (h : Sub sh' ι sh) (hI : Inj sh ad) : Inj sh' (fun j => ad (ι j)) := fun i j hi hj e => h.2.1 i j hi hj (hI _ _ (h.lt hi) (h.lt hj) e)
theorem Sub.P {sh' sh : Shp} {ι ad : Nat → Nat} {cts : Nat → ClassId} {D : va_G} {M Mc : Mem} {H : Heap} (h : Sub sh' ι sh) (hM : ∀ j, j < sh'.length → Mc j = M (ι j)) (hP : va_P D vwCl (wld cts ad M sh) H) : va_P D vwCl (wld cts (fun j => ad (ι j)) Mc sh') H := by
  intro k q hq
  obtain ⟨s, hs, rfl⟩ := wld_inv hq
  have hk : k < sh'.length := (List.getElem?_eq_some_iff.mp hs).1
  have h1 := h.1 k hk
  rw [hs] at h1
  have h2 := hP (ι k) _ (wld_at h1)
  rw [cel_map (hM k hk).symm] at h2
  exact h2
theorem Sub.back {sh' sh : Shp} {ι ad : Nat → Nat} {cts : Nat → ClassId} {D : va_G} {M M' M2 : Mem} {H H1 : Heap} (h : Sub sh' ι sh) (hI : Inj sh ad) (hm : Mrg sh'.length ι sh.length M M' M2) (hP : va_P D vwCl (wld cts ad M sh) H)
    (hP1 : va_P D vwCl (wld cts (fun j => ad (ι j)) M' sh') H1) (hk : ∀ q : Nat, q < H.size → ¬ aset sh' (fun j => ad (ι j)) q → H1[q]? = H[q]?) : va_P D vwCl (wld cts ad M2 sh) H1 := by
  intro c q hq
  obtain ⟨s, hs, rfl⟩ := wld_inv hq
  have hc : c < sh.length := (List.getElem?_eq_some_iff.mp hs).1
  by_cases hex : ∃ j, j < sh'.length ∧ ι j = c
  · obtain ⟨j, hj, rfl⟩ := hex
    have h1 := h.1 j hj
    rw [hs, List.getElem?_eq_getElem hj] at h1
    have h2 : s = mapE ι sh'[j] := Option.some.inj h1
    have h3 := hP1 j _ (wld_at (List.getElem?_eq_getElem hj))
    rw [h2, cel_map (hm.1 j hj)]
    exact h3
  · have hne : ∀ j, j < sh'.length → ι j ≠ c := fun j hj e => hex ⟨j, hj, e⟩
    rw [cel_ne (hm.2 c hc hne) s]
    have h1 := hP c _ (wld_at hs)
    have h1' : va_at D vwCl (ad c, cel cts ad M c s) H := h1
    exact h1'.kept (hk _ (h1'.lt) (fun ⟨j, hj, e⟩ => hne j hj (hI _ _ (h.lt hj) hc e.symm)))
theorem WU.blind {D : va_G} {cts : Nat → ClassId} {sh : Shp} {ad : Nat → Nat} {M : Mem} {av : List Value} : FrameBlind (va_Pc av (WU D cts sh ad M)) := by
  intro a U g mk h
  exact ⟨h.1, va_K.moved (u := U) (U := U.calling g mk a) (Vm.Alike.refl U.vm) h.2.1, h.2.2.1, h.2.2.2.1, SF.same (s := U) (U := U.calling g mk a) h.2.2.2.2 rfl⟩
/-- the callee's start, out of the caller's frame -/
theorem WU.of {K : MI} {sh sh' : Shp} {ι : Nat → Nat} {p : Program} {s : State} {m : MethodId} {args : Array Value} {meth : Method} {c : Code} {D : va_G} {cts : Nat → ClassId} {ad : Nat → Nat} {H : Heap} {locs : List Loc} {M Mc : Mem}
    (F : GX K sh D cts ad p s m args meth c) (hP : va_P D vwCl (wld cts ad M sh) H) (hS : va_S (aset sh ad) s.heap H locs) (h : Sub sh' ι sh) (hM : ∀ j, j < sh'.length → Mc j = M (ι j)) (U : State) (hU : U.heap = H) (hW : s.WarmedH U.vm) : WU D cts sh' (fun j => ad (ι j)) Mc U := by
  refine ⟨va_K.moved hW.alike F.2.1, by rw [hU]; exact h.P hM hP, h.inj F.2.2.1, ?_⟩
  rw [hU]
  have h1 := F.2.2.2.warm (H1 := H) hW (fun a ha hn => hS.2.1 a ha hn) h.asub
  obtain ⟨a, b, c, d, e, f, g⟩ := h1
  have hi : ∀ j, 1000 ≤ j → ad j = ad (ι j) := fun j hj => by rw [h.2.2 j hj]
  refine ⟨fun t ht => ?_, b, c, ?_, fun q hq => ?_, f, g⟩
  · have := a t ht
    rw [hi (1000 + t) (by omega)] at this
    exact this
  · obtain ⟨adV, d⟩ := d
    refine ⟨adV, ?_⟩
    have h2 : (fun i => ad (1100 + i)) = fun i => ad (ι (1100 + i)) := funext fun i => hi _ (by omega)
    rw [h2] at d
    exact d
  · have := e q hq
    rw [hi (1100 + q.2.2.2) (by omega)] at this
    exact this
/-- from a run of the callee to what stands behind the call -/
theorem G_run {K : MI} {sh sh' : Shp} {ι : Nat → Nat} {d : Nat} {Q Q' : Option Value → Mem → Prop} {pc : Nat} {ls : List (Option Value)} {rest : List Value} {M : Mem} {mg : Mem → Mem} {av : Array Value}
    {p : Program} {l : Launch} {e : Env} {s : State} {m : MethodId} {args : Array Value} {below : List Frame} {meth : Method} {c : Code} {D : va_G} {cts : Nat → ClassId} {ad : Nat → Nat} {H : Heap} {locs : List Loc} {lsA : Array Slot} {st0 : List Value}
    (h : Sub sh' ι sh) (hmg : ∀ M', Mrg sh'.length ι sh.length M M' (mg M'))
    (kk : ∀ v M', Q' v M' → G K sh d Q (pc + 3) ls ((v.map (tv ι)).toList ++ rest) (mg M'))
    (F : GX K sh D cts ad p s m args meth c) (hP : va_P D vwCl (wld cts ad M sh) H) (hS : va_S (aset sh ad) s.heap H locs) (hl : LH ad lsA K.2.2.1 ls)
    (hr : va_Run p l e (rmd d) s m args below meth c H locs 0 0 0 0 (F0 m pc lsA st0) (rest.map (tv ad)) (QF D cts sh' (fun j => ad (ι j)) Q' av) (aset sh' (fun j => ad (ι j)))) :
    W p l e (rmd d) s m args below meth c H locs 0 0 (MQ below (QF D cts sh ad Q) args s 0 0 (aset sh ad)) (F0 m pc lsA st0) := by
  intro T hT X
  obtain ⟨v, st₀, t, T', L, h0, X', hL, e1, e2, ⟨⟨v', M', hv, hQ, hP1⟩, hz, hk⟩, st⟩ := hr T hT X
  cases hv
  rw [h0] at hz hk
  have hP2 := h.back F.2.2.1 (hmg M') hP hP1 hk
  have hS2 : va_S (aset sh ad) s.heap T'.heap (locs ++ L) := ⟨Nat.le_trans hS.1 (by rw [e1]; exact hz), fun q h1 h2 => by rw [e1, hk q (Nat.lt_of_lt_of_le h1 hS.1) (fun z => h2 (h.asub q z))]; exact hS.2.1 q h1 h2, fun q hq => by
    rcases List.mem_append.mp hq with h1 | h1
    · exact hS.2.2 q h1
    · exact h.asub _ (hL q h1)⟩
  obtain ⟨t2, a1, b1⟩ := kk v' M' hQ F (by rw [e1]; exact hP2) hS2 hl T' rfl X'
  refine ⟨t2, st t2 ?_, b1⟩
  have hst : ((v'.map (tv ι)).toList ++ rest).map (tv ad) = (v'.map (tv fun j => ad (ι j))).toList ++ rest.map (tv ad) := by
    rw [List.map_append]
    congr 1
    cases v' with
    | none => rfl
    | some w => show [tv ad (tv ι w)] = [tv _ w]; rw [tv_tv]
  rw [hst] at a1
  exact a1
/-- what the tables say of a method that is called: of an object (V), of none (S) -/
def VI (y : MI) (n : Nat) : Prop := Cond.code y.1 y.2.1 y.2.2.1 y.2.2.2 ∈ gtbl ∧ Cond.instanceMethod y.1 ∈ gtbl ∧ Cond.selects y.1.cls y.1 y.1 ∈ gtbl ∧ Cond.initialized y.1.cls ∈ gtbl ∧ (y.1.cls ≠ "java/lang/invoke/MethodHandle" ∧ y.1.cls ≠ "java/lang/invoke/VarHandle" ∧ (parseMethodDescriptor y.1.desc).map (fun d => d.parameters.length) = some n) ∧ y.2.2.1 ≤ 90
def SI (y : MI) (n : Nat) : Prop := Cond.code y.1 y.2.1 y.2.2.1 y.2.2.2 ∈ gtbl ∧ Cond.static y.1 ∈ gtbl ∧ Cond.initialized y.1.cls ∈ gtbl ∧ (y.1.cls ≠ "java/lang/invoke/MethodHandle" ∧ y.1.cls ≠ "java/lang/invoke/VarHandle" ∧ (parseMethodDescriptor y.1.desc).map (fun d => d.parameters.length) = some n) ∧ y.2.2.1 ≤ 90
theorem tbl_good : GoodIn gtbl gtbl := fun w hw => ⟨hw, good_of_word (List.mem_filter.mp hw).2⟩
theorem good_y {y : MI} (h : Cond.code y.1 y.2.1 y.2.2.1 y.2.2.2 ∈ gtbl) : GoodIn gtbl (Cond.code y.1 y.2.1 y.2.2.1 y.2.2.2 :: gtbl) := by
  intro w hw
  rcases List.mem_cons.mp hw with rfl | hw
  · exact ⟨h, (tbl_good _ h).2⟩
  · exact tbl_good w hw
theorem rmd_le {d d' n : Nat} (h : d' + 1 ≤ d) (hn : n ≤ 90) : (rmd d').frames + 1 ≤ (rmd d).frames ∧ 8 + (n + 11) + (rmd d').locals ≤ (rmd d).locals := by
  refine ⟨h, ?_⟩
  show 8 + (n + 11) + 120 * d' ≤ 120 * d
  omega
section Calls
variable {K : MI} {sh : Shp} {d : Nat} {Q : Option Value → Mem → Prop} {pc : Nat} {ls : List (Option Value)} {st : List Value} {M : Mem}
theorem map_args (ad ι : Nat → Nat) (as rest : List Value) : (((as.map (tv ι)).reverse ++ rest).map (tv ad)) = (as.map (tv fun j => ad (ι j))).reverse ++ rest.map (tv ad) := by
  rw [List.map_append, List.map_reverse, List.map_map]
  congr 2
  apply List.map_congr_left
  intro v _
  exact tv_tv ad ι v
theorem G_callV {idx n : Nat} (y : MI) (sh' : Shp) (ι : Nat → Nat) (mg : Mem → Mem) (d' r : Nat) (as rest : List Value) {Mc : Mem} {Q' : Option Value → Mem → Prop}
    (hc : CT y sh' d' (.ref r :: as) Mc Q') (h : Sub sh' ι sh) (hM : ∀ j, j < sh'.length → Mc j = M (ι j)) (hmg : ∀ M', Mrg sh'.length ι sh.length M M' (mg M'))
    (hy : VI y n) (hn : as.length = n) (hlink : Cond.methodLink K.1.cls idx y.1 ∈ gtbl) (hrec : ∃ ci fs q, sh'[r]? = some (.inl (ci, fs)) ∧ vwCl[ci]? = some q ∧ q.1 = y.1.cls)
    (hd' : d' + 1 ≤ d) (hrest : (rest.map fun v => v.category).sum ≤ 8) (hd : decode K.2.1 pc = .ok (.invokevirtual idx, 3)) (hst : st = (as.map (tv ι)).reverse ++ .ref (ι r) :: rest)
    (kk : ∀ v M', Q' v M' → G K sh d Q (pc + 3) ls ((v.map (tv ι)).toList ++ rest) (mg M')) : G K sh d Q pc ls st M := by
  intro p l e s m args below meth c D cts ad H locs lsA F hP hS hl
  subst hst
  obtain ⟨ci, fs, q, hr1, hr2, hr3⟩ := hrec
  obtain ⟨v1, v2, v3, v4, v5, v6⟩ := hy
  have hts := F.1.2.2.2.2.1
  have hrl : r < sh'.length := (List.getElem?_eq_some_iff.mp hr1).1
  have hPc := h.P (D := D) (cts := cts) (ad := ad) hM hP
  have hrec2 := va_recv F.2.1 hPc hr2 (wld_at hr1)
  rw [hr3] at hrec2
  refine G_run (av := (Value.ref (ad (ι r)) :: as.map (tv fun j => ad (ι j))).toArray) h hmg kk F hP hS hl ?_
  refine va_runV (As := as.map (tv fun j => ad (ι j))) (n := n) (Ts := gtbl) (own := K.1.cls) (y := y.1) (C := y.1.cls) ⟨F.1.1, F.1.2.1, F.1.2.2.1, F.1.2.2.2.1, hts⟩ (hc l D cts (fun j => ad (ι j)))
    ⟨callB_of n hts (good_y v1) rfl rfl rfl (hts _ v4) (hts _ hlink) v5 (rmd_le hd' v6), hts _ v2, hts _ v3⟩
    ⟨WU.blind, hrec2, fun U hU hW => ⟨rfl, WU.of F hP hS h hM U hU hW⟩⟩ rfl (by rw [List.length_map]; exact hn) hl.1.1 (map_args ad ι as _) ?_ hd ⟨Nat.le_refl 0, Nat.le_refl 0⟩
  exact lv_room (by rw [tv_cats]; exact hrest)
theorem G_callS {idx n : Nat} (y : MI) (sh' : Shp) (ι : Nat → Nat) (mg : Mem → Mem) (d' : Nat) (as rest : List Value) {Mc : Mem} {Q' : Option Value → Mem → Prop}
    (hc : CT y sh' d' as Mc Q') (h : Sub sh' ι sh) (hM : ∀ j, j < sh'.length → Mc j = M (ι j)) (hmg : ∀ M', Mrg sh'.length ι sh.length M M' (mg M'))
    (hy : SI y n) (hn : as.length = n) (hlink : Cond.methodLink K.1.cls idx y.1 ∈ gtbl)
    (hd' : d' + 1 ≤ d) (hrest : (rest.map fun v => v.category).sum ≤ 8) (hd : decode K.2.1 pc = .ok (.invokestatic idx, 3)) (hst : st = (as.map (tv ι)).reverse ++ rest)
    (kk : ∀ v M', Q' v M' → G K sh d Q (pc + 3) ls ((v.map (tv ι)).toList ++ rest) (mg M')) : G K sh d Q pc ls st M := by
  intro p l e s m args below meth c D cts ad H locs lsA F hP hS hl
  subst hst
  obtain ⟨v1, v2, v4, v5, v6⟩ := hy
  have hts := F.1.2.2.2.2.1
  refine G_run (av := (as.map (tv fun j => ad (ι j))).toArray) h hmg kk F hP hS hl ?_
  refine va_runS (As := as.map (tv fun j => ad (ι j))) (n := n) (Ts := gtbl) (own := K.1.cls) (y := y.1) ⟨F.1.1, F.1.2.1, F.1.2.2.1, F.1.2.2.2.1, hts⟩ (hc l D cts (fun j => ad (ι j)))
    ⟨callB_of n hts (good_y v1) rfl rfl rfl (hts _ v4) (hts _ hlink) v5 (rmd_le hd' v6), hts _ v2⟩
    ⟨WU.blind, fun U hU hW => ⟨rfl, WU.of F hP hS h hM U hU hW⟩⟩ rfl (by rw [List.length_map]; exact hn) hl.1.1 (map_args ad ι as _) ?_ hd ⟨Nat.le_refl 0, Nat.le_refl 0⟩
  exact lv_room (by rw [tv_cats]; exact hrest)
theorem G_callSN {n : Nat} {y : MI} (sh' : Shp) (ι : Nat → Nat) (mg : Mem → Mem) (d' : Nat) (as rest : List Value) {Mc : Mem} {Q' : Option Value → Mem → Prop}
    (hc : CT y sh' d' as Mc Q') (h : Sub sh' ι sh) (hM : ∀ j, j < sh'.length → Mc j = M (ι j)) (hmg : ∀ M', Mrg sh'.length ι sh.length M M' (mg M'))
    (hy : SI y n) (hn : as.length = n) (hlink : K.1.cls = "WarmWalls$House" ∧ y.1 = yX4_isKind)
    (hd' : d' + 1 ≤ d) (hrest : (rest.map fun v => v.category).sum ≤ 8) (hd : decode K.2.1 pc = .ok (.invokestatic 110, 3)) (hst : st = (as.map (tv ι)).reverse ++ rest)
    (kk : ∀ v M', Q' v M' → G K sh d Q (pc + 3) ls ((v.map (tv ι)).toList ++ rest) (mg M')) : G K sh d Q pc ls st M := by
  intro p l e s m args below meth c D cts ad H locs lsA F hP hS hl
  subst hst
  obtain ⟨v1, v2, v4, v5, v6⟩ := hy
  have hts := F.1.2.2.2.2.1
  refine G_run (av := (as.map (tv fun j => ad (ι j))).toArray) h hmg kk F hP hS hl ?_
  have hnw := F.2.2.2.2.2.2.2.2.2
  rw [← hlink.1, ← hlink.2] at hnw
  refine va_runSN (As := as.map (tv fun j => ad (ι j))) (n := n) (Ts := gtbl) (own := K.1.cls) (y := y.1) ⟨F.1.1, F.1.2.1, F.1.2.2.1, F.1.2.2.2.1, hts⟩ (hc l D cts (fun j => ad (ι j)))
    ⟨va_cnB n hts (good_y v1) rfl rfl rfl hnw (hts _ v4) v5 (rmd_le hd' v6), hts _ v2, trivial⟩
    ⟨WU.blind, fun U hU hW => ⟨rfl, WU.of F hP hS h hM U hU hW⟩⟩ rfl (by rw [List.length_map]; exact hn) hl.1.1 (map_args ad ι as _) ?_ hd ⟨Nat.le_refl 0, Nat.le_refl 0⟩
  exact lv_room (by rw [tv_cats]; exact hrest)
end Calls
/-! in the same world -/
theorem mapE_id (s : ShE) : mapE (fun j => j) s = s := by
  rcases s with o | n | t
  · show Sum.inl (o.1, o.2.map (Option.map fun j => j)) = Sum.inl o
    rw [show (Option.map fun j : Nat => j) = id from funext fun x => by cases x <;> rfl, List.map_id]
  · rfl
  · show Sum.inr (Sum.inr (t.1, t.2.map fun j => j)) = Sum.inr (Sum.inr t)
    rw [show (fun j : Nat => j) = id from rfl, List.map_id]
theorem Sub.id (sh : Shp) : Sub sh (fun j => j) sh := ⟨fun k _ => by rw [show mapE (fun j => j) = _root_.id from funext mapE_id, Option.map_id]; rfl, fun _ _ _ _ h => h, fun _ _ => rfl⟩
theorem Mrg.id (n : Nat) (M M' : Mem) : Mrg n (fun j => j) n M M' M' := ⟨fun _ _ => rfl, fun c hc h => absurd rfl (h c hc)⟩
end
section
abbrev mJ7_fill_53178 : MI := (yJ7_fill_53178, cJ7_fill_53178, 4, none)
abbrev mX0_init : MI := (yX0_init, cX0_init, 1, none)
abbrev mX0_has : MI := (yX0_has, cX0_has, 2, some .boolean)
abbrev mX0_addRoom : MI := (yX0_addRoom, cX0_addRoom, 3, some .int)
abbrev mX0_rowOf : MI := (yX0_rowOf, cX0_rowOf, 2, some (.array .int))
abbrev mX0_fits : MI := (yX0_fits, cX0_fits, 4, some .boolean)
abbrev mX0_becomes : MI := (yX0_becomes, cX0_becomes, 2, none)
abbrev mX0_wants : MI := (yX0_wants, cX0_wants, 4, some .int)
abbrev mX0_stokes : MI := (yX0_stokes, cX0_stokes, 2, some .int)
abbrev mX0_heat : MI := (yX0_heat, cX0_heat, 2, none)
abbrev mX0_lostBy : MI := (yX0_lostBy, cX0_lostBy, 2, some .int)
abbrev mX0_passHour : MI := (yX0_passHour, cX0_passHour, 3, some .int)
abbrev mX0_passHours : MI := (yX0_passHours, cX0_passHours, 4, some .int)
abbrev mX0_nextIsRest : MI := (yX0_nextIsRest, cX0_nextIsRest, 2, some .boolean)
abbrev mX0_stokesLike : MI := (yX0_stokesLike, cX0_stokesLike, 3, some .boolean)
abbrev mX0_swap : MI := (yX0_swap, cX0_swap, 4, none)
abbrev mX0_changePlaces : MI := (yX0_changePlaces, cX0_changePlaces, 3, none)
abbrev mX4_isKind : MI := (yX4_isKind, cX4_isKind, 1, some .boolean)
abbrev mX0_isOneOf : MI := (yX0_isOneOf, cX0_isOneOf, 5, some .boolean)
abbrev mX0_heatersOf : MI := (yX0_heatersOf, cX0_heatersOf, 4, some .int)
abbrev mX0_reachedFrom : MI := (yX0_reachedFrom, cX0_reachedFrom, 5, some .int)
abbrev mX0_coldRooms : MI := (yX0_coldRooms, cX0_coldRooms, 3, some .int)
abbrev mX0_awayRooms : MI := (yX0_awayRooms, cX0_awayRooms, 3, some .int)
abbrev mX0_warmerThan : MI := (yX0_warmerThan, cX0_warmerThan, 4, some .int)
abbrev mX0_sumOf : MI := (yX0_sumOf, cX0_sumOf, 4, some .int)
abbrev mX0_coldestRoom : MI := (yX0_coldestRoom, cX0_coldestRoom, 3, some .int)
abbrev mX0_leastWarmth : MI := (yX0_leastWarmth, cX0_leastWarmth, 2, some .int)
abbrev mX0_spotsInUse : MI := (yX0_spotsInUse, cX0_spotsInUse, 3, some .int)
abbrev mX0_draw : MI := (yX0_draw, cX0_draw, 1, some .int)
abbrev mX0_gotIfColdBy : MI := (yX0_gotIfColdBy, cX0_gotIfColdBy, 5, some .int)
abbrev mX0_gotAsIfColdBy : MI := (yX0_gotAsIfColdBy, cX0_gotAsIfColdBy, 3, some .boolean)
abbrev mX1_init : MI := (yX1_init, cX1_init, 1, none)
abbrev mX1_renew : MI := (yX1_renew, cX1_renew, 3, none)
abbrev mX1_has : MI := (yX1_has, cX1_has, 3, some .boolean)
abbrev mX1_put : MI := (yX1_put, cX1_put, 3, none)
abbrev mX2_init : MI := (yX2_init, cX2_init, 1, none)
abbrev mX2_append : MI := (yX2_append, cX2_append, 4, none)
abbrev mX2_byteAt : MI := (yX2_byteAt, cX2_byteAt, 2, some .int)
abbrev mX3_init : MI := (yX3_init, cX3_init, 1, none)
abbrev mX3_tokenBegunBy : MI := (yX3_tokenBegunBy, cX3_tokenBegunBy, 1, some .int)
abbrev mX3_step : MI := (yX3_step, cX3_step, 1, none)
abbrev mX3_wordOfKind : MI := (yX3_wordOfKind, cX3_wordOfKind, 1, some (.object "java/lang/String"))
abbrev mJ0_coder_7d493 : MI := (yJ0_coder_7d493, cJ0_coder_7d493, 1, some .byte)
abbrev mJ0_length_8abf5 : MI := (yJ0_length_8abf5, cJ0_length_8abf5, 1, some .int)
abbrev mJ0_isLatin1_aae02 : MI := (yJ0_isLatin1_aae02, cJ0_isLatin1_aae02, 1, some .boolean)
abbrev mJ3_checkIndex_8e157 : MI := (yJ3_checkIndex_8e157, cJ3_checkIndex_8e157, 3, some .int)
abbrev mJ0_checkIndex_df160 : MI := (yJ0_checkIndex_df160, cJ0_checkIndex_df160, 2, none)
abbrev mJ1_charAt_3b067 : MI := (yJ1_charAt_3b067, cJ1_charAt_3b067, 2, some .char)
abbrev mJ2_length_9d52b : MI := (yJ2_length_9d52b, cJ2_length_9d52b, 1, some .int)
abbrev mJ2_checkIndex_2214a : MI := (yJ2_checkIndex_2214a, cJ2_checkIndex_2214a, 2, none)
abbrev mJ2_getChar_3b067 : MI := (yJ2_getChar_3b067, cJ2_getChar_3b067, 2, some .char)
abbrev mJ2_charAt_3b067 : MI := (yJ2_charAt_3b067, cJ2_charAt_3b067, 2, some .char)
abbrev mJ0_charAt_5068e : MI := (yJ0_charAt_5068e, cJ0_charAt_5068e, 2, some .char)
abbrev mX3_isWord : MI := (yX3_isWord, cX3_isWord, 3, some .boolean)
abbrev mX3_kindTold : MI := (yX3_kindTold, cX3_kindTold, 2, some .int)
abbrev mX3_wordOfPart : MI := (yX3_wordOfPart, cX3_wordOfPart, 1, some (.object "java/lang/String"))
abbrev mX3_readValue : MI := (yX3_readValue, cX3_readValue, 4, some .boolean)
abbrev mX3_readRoom : MI := (yX3_readRoom, cX3_readRoom, 4, some .boolean)
abbrev mX3_readOut : MI := (yX3_readOut, cX3_readOut, 1, some .boolean)
abbrev mX3_readDamper : MI := (yX3_readDamper, cX3_readDamper, 2, some .boolean)
abbrev mX3_readItem : MI := (yX3_readItem, cX3_readItem, 2, some .boolean)
abbrev mX3_read : MI := (yX3_read, cX3_read, 3, some .int)
abbrev mX4_init : MI := (yX4_init, cX4_init, 2, none)
abbrev mX4_tell : MI := (yX4_tell, cX4_tell, 3, some .int)
abbrev mX4_room : MI := (yX4_room, cX4_room, 2, some .int)
abbrev mX4_of : MI := (yX4_of, cX4_of, 4, some .int)
abbrev mX4_change : MI := (yX4_change, cX4_change, 6, some .int)
abbrev mX4_out : MI := (yX4_out, cX4_out, 3, some .int)
abbrev mX4_heaters : MI := (yX4_heaters, cX4_heaters, 2, some .int)
abbrev mX4_reach : MI := (yX4_reach, cX4_reach, 2, some .int)
abbrev mX4_move : MI := (yX4_move, cX4_move, 3, some .int)
abbrev mX4_findingOfHours : MI := (yX4_findingOfHours, cX4_findingOfHours, 3, some .int)
abbrev mX4_hours : MI := (yX4_hours, cX4_hours, 3, some .int)
abbrev mX4_now : MI := (yX4_now, cX4_now, 2, some .int)
abbrev mX4_startTrial : MI := (yX4_startTrial, cX4_startTrial, 1, none)
abbrev mX4_ahead : MI := (yX4_ahead, cX4_ahead, 4, some .int)
abbrev mX4_isLate : MI := (yX4_isLate, cX4_isLate, 1, some .boolean)
abbrev mX4_firstBelow : MI := (yX4_firstBelow, cX4_firstBelow, 6, some .int)
abbrev mX4_cold : MI := (yX4_cold, cX4_cold, 2, some .int)
abbrev mX4_spent : MI := (yX4_spent, cX4_spent, 2, some .int)
abbrev mX4_rest : MI := (yX4_rest, cX4_rest, 2, some .int)
abbrev mX4_goAsItGoes : MI := (yX4_goAsItGoes, cX4_goAsItGoes, 2, none)
abbrev mX4_circle : MI := (yX4_circle, cX4_circle, 2, some .int)
abbrev mX4_findingOfRoomAhead : MI := (yX4_findingOfRoomAhead, cX4_findingOfRoomAhead, 3, some .int)
abbrev mX4_goWith : MI := (yX4_goWith, cX4_goWith, 6, none)
abbrev mX4_spread : MI := (yX4_spread, cX4_spread, 4, some .int)
abbrev mX4_bestForItself : MI := (yX4_bestForItself, cX4_bestForItself, 7, some .int)
abbrev mX4_kindFor : MI := (yX4_kindFor, cX4_kindFor, 4, some .int)
abbrev mX4_tempted : MI := (yX4_tempted, cX4_tempted, 5, some .int)
abbrev mX4_takenByAbsence : MI := (yX4_takenByAbsence, cX4_takenByAbsence, 4, some .int)
abbrev mX4_missed : MI := (yX4_missed, cX4_missed, 7, some .int)
abbrev mX4_findingOfPairs : MI := (yX4_findingOfPairs, cX4_findingOfPairs, 3, some .int)
abbrev mX4_goWithMove : MI := (yX4_goWithMove, cX4_goWithMove, 4, none)
abbrev mX4_bestPair : MI := (yX4_bestPair, cX4_bestPair, 6, some .int)
abbrev mX4_warmest : MI := (yX4_warmest, cX4_warmest, 4, some .int)
abbrev mX4_exchange : MI := (yX4_exchange, cX4_exchange, 4, some .int)
abbrev mX4_deal : MI := (yX4_deal, cX4_deal, 5, some .int)
abbrev mX4_memberOf : MI := (yX4_memberOf, cX4_memberOf, 4, some .int)
abbrev mX4_dealKinds : MI := (yX4_dealKinds, cX4_dealKinds, 8, none)
abbrev mX4_orders : MI := (yX4_orders, cX4_orders, 7, some .int)
abbrev mX4_coal : MI := (yX4_coal, cX4_coal, 5, some .int)
abbrev mX4_wall : MI := (yX4_wall, cX4_wall, 5, some .int)
abbrev mX4_turn : MI := (yX4_turn, cX4_turn, 8, some .int)
abbrev mX4_damper : MI := (yX4_damper, cX4_damper, 4, some .int)
abbrev mX4_own : MI := (yX4_own, cX4_own, 4, some .int)
abbrev mX4_culprits : MI := (yX4_culprits, cX4_culprits, 3, some .int)
abbrev mX4_surely : MI := (yX4_surely, cX4_surely, 6, some .int)
abbrev mX4_travel : MI := (yX4_travel, cX4_travel, 4, some .int)
abbrev mX4_seed : MI := (yX4_seed, cX4_seed, 3, some .int)
abbrev mX4_feed : MI := (yX4_feed, cX4_feed, 3, some .int)
abbrev mX4_wipe : MI := (yX4_wipe, cX4_wipe, 2, some .int)
abbrev mX4_text : MI := (yX4_text, cX4_text, 2, some .int)
abbrev mX4_isSpot : MI := (yX4_isSpot, cX4_isSpot, 1, some .boolean)
abbrev mX4_hold : MI := (yX4_hold, cX4_hold, 3, some .int)
abbrev mX4_as : MI := (yX4_as, cX4_as, 4, some .int)
abbrev mX4_isSheet : MI := (yX4_isSheet, cX4_isSheet, 1, some .boolean)
abbrev mX4_sheet : MI := (yX4_sheet, cX4_sheet, 4, some .int)
abbrev mX4_findingOfSheet : MI := (yX4_findingOfSheet, cX4_findingOfSheet, 2, some .int)
abbrev mX4_write : MI := (yX4_write, cX4_write, 5, some .int)
abbrev mX4_copy : MI := (yX4_copy, cX4_copy, 8, some .int)
abbrev mX4_load : MI := (yX4_load, cX4_load, 5, some .int)
abbrev mX4_judge : MI := (yX4_judge, cX4_judge, 6, some .int)
abbrev mX4_image : MI := (yX4_image, cX4_image, 1, some .int)
abbrev mX4_undo : MI := (yX4_undo, cX4_undo, 1, some .int)
abbrev mX4_tear : MI := (yX4_tear, cX4_tear, 2, some .int)
abbrev mX4_count : MI := (yX4_count, cX4_count, 2, some .int)
abbrev mX4_status : MI := (yX4_status, cX4_status, 4, some .int)
abbrev mX5_init : MI := (yX5_init, cX5_init, 2, none)
abbrev mX5_finding : MI := (yX5_finding, cX5_finding, 2, some .int)
abbrev mX5_within : MI := (yX5_within, cX5_within, 3, some .boolean)
abbrev mX5_become : MI := (yX5_become, cX5_become, 4, some .int)
abbrev mX5_copyRow : MI := (yX5_copyRow, cX5_copyRow, 3, none)
abbrev mX5_putBack : MI := (yX5_putBack, cX5_putBack, 2, some .int)
abbrev mX5_has : MI := (yX5_has, cX5_has, 2, some .boolean)
abbrev mX5_isRoom : MI := (yX5_isRoom, cX5_isRoom, 2, some .boolean)
abbrev mX5_isKind : MI := (yX5_isKind, cX5_isKind, 1, some .boolean)
abbrev mX5_at : MI := (yX5_at, cX5_at, 2, some .int)
abbrev mX5_roomIs : MI := (yX5_roomIs, cX5_roomIs, 3, some .int)
abbrev mX5_comes : MI := (yX5_comes, cX5_comes, 3, some .int)
abbrev mX5_room : MI := (yX5_room, cX5_room, 2, some .int)
abbrev mX5_above : MI := (yX5_above, cX5_above, 1, some .int)
abbrev mX5_isUnder : MI := (yX5_isUnder, cX5_isUnder, 3, some .boolean)
abbrev mX5_wants : MI := (yX5_wants, cX5_wants, 4, some .int)
abbrev mX5_of : MI := (yX5_of, cX5_of, 3, some .int)
abbrev mX5_change : MI := (yX5_change, cX5_change, 5, some .int)
abbrev mX5_out : MI := (yX5_out, cX5_out, 2, some .int)
abbrev mX5_heatersOf : MI := (yX5_heatersOf, cX5_heatersOf, 4, some .int)
abbrev mX5_heaters : MI := (yX5_heaters, cX5_heaters, 2, some .int)
abbrev mX5_reach : MI := (yX5_reach, cX5_reach, 4, some .int)
abbrev mX5_swap : MI := (yX5_swap, cX5_swap, 4, none)
abbrev mX5_moved : MI := (yX5_moved, cX5_moved, 3, some .int)
abbrev mX5_move : MI := (yX5_move, cX5_move, 3, some .int)
abbrev mX5_gets : MI := (yX5_gets, cX5_gets, 4, some .int)
abbrev mX5_hour : MI := (yX5_hour, cX5_hour, 4, some .int)
abbrev mX5_hoursGo : MI := (yX5_hoursGo, cX5_hoursGo, 4, some .int)
abbrev mX5_isTooLate : MI := (yX5_isTooLate, cX5_isTooLate, 2, some .boolean)
abbrev mX5_hours : MI := (yX5_hours, cX5_hours, 2, some .int)
abbrev mX5_colds : MI := (yX5_colds, cX5_colds, 3, some .int)
abbrev mX5_sum : MI := (yX5_sum, cX5_sum, 4, some .int)
abbrev mX5_coldest : MI := (yX5_coldest, cX5_coldest, 3, some .int)
abbrev mX5_leastWarmth : MI := (yX5_leastWarmth, cX5_leastWarmth, 2, some .int)
abbrev mX5_now : MI := (yX5_now, cX5_now, 2, some .int)
abbrev mX5_ahead : MI := (yX5_ahead, cX5_ahead, 4, some .int)
abbrev mX5_isLate : MI := (yX5_isLate, cX5_isLate, 1, some .boolean)
abbrev mX5_firstBelow : MI := (yX5_firstBelow, cX5_firstBelow, 5, some .int)
abbrev mX5_cold : MI := (yX5_cold, cX5_cold, 2, some .int)
abbrev mX5_spent : MI := (yX5_spent, cX5_spent, 2, some .int)
abbrev mX5_gave : MI := (yX5_gave, cX5_gave, 3, some .int)
abbrev mX5_rest : MI := (yX5_rest, cX5_rest, 4, some .int)
abbrev mX5_circle : MI := (yX5_circle, cX5_circle, 8, some .int)
abbrev mX5_live : MI := (yX5_live, cX5_live, 4, none)
abbrev mX5_liveAnyhow : MI := (yX5_liveAnyhow, cX5_liveAnyhow, 3, none)
abbrev mX5_refuses : MI := (yX5_refuses, cX5_refuses, 3, some .int)
abbrev mX5_refusesHours : MI := (yX5_refusesHours, cX5_refusesHours, 3, some .int)
abbrev mX5_spread : MI := (yX5_spread, cX5_spread, 6, some .int)
abbrev mX5_bestOf : MI := (yX5_bestOf, cX5_bestOf, 8, some .int)
abbrev mX5_kindFor : MI := (yX5_kindFor, cX5_kindFor, 4, some .int)
abbrev mX5_tempted : MI := (yX5_tempted, cX5_tempted, 5, some .int)
abbrev mX5_missed : MI := (yX5_missed, cX5_missed, 8, some .int)
abbrev mX5_leastThen : MI := (yX5_leastThen, cX5_leastThen, 3, some .int)
abbrev mX5_refusesPairs : MI := (yX5_refusesPairs, cX5_refusesPairs, 3, some .int)
abbrev mX5_findPair : MI := (yX5_findPair, cX5_findPair, 5, none)
abbrev mX5_warmest : MI := (yX5_warmest, cX5_warmest, 3, some .int)
abbrev mX5_exchange : MI := (yX5_exchange, cX5_exchange, 3, some .int)
abbrev mX5_deal : MI := (yX5_deal, cX5_deal, 8, some .int)
abbrev mX5_dealOn : MI := (yX5_dealOn, cX5_dealOn, 6, none)
abbrev mX5_orders : MI := (yX5_orders, cX5_orders, 3, some .int)
abbrev mX5_leastFor : MI := (yX5_leastFor, cX5_leastFor, 8, some .int)
abbrev mX5_coal : MI := (yX5_coal, cX5_coal, 4, some .int)
abbrev mX5_wall : MI := (yX5_wall, cX5_wall, 4, some .int)
abbrev mX5_turn : MI := (yX5_turn, cX5_turn, 7, some .int)
abbrev mX5_damper : MI := (yX5_damper, cX5_damper, 4, some .int)
abbrev mX5_own : MI := (yX5_own, cX5_own, 5, some .int)
abbrev mX5_fits : MI := (yX5_fits, cX5_fits, 4, some .boolean)
abbrev mX5_findCulprits : MI := (yX5_findCulprits, cX5_findCulprits, 3, some .int)
abbrev mX5_culprits : MI := (yX5_culprits, cX5_culprits, 1, some .int)
abbrev mX5_surely : MI := (yX5_surely, cX5_surely, 2, some .int)
abbrev mX5_drawn : MI := (yX5_drawn, cX5_drawn, 2, some .int)
abbrev mX5_aways : MI := (yX5_aways, cX5_aways, 3, some .int)
abbrev mX5_travel : MI := (yX5_travel, cX5_travel, 4, some .int)
abbrev mX5_seed : MI := (yX5_seed, cX5_seed, 2, some .int)
abbrev mX5_feed : MI := (yX5_feed, cX5_feed, 4, some .int)
abbrev mX5_wipe : MI := (yX5_wipe, cX5_wipe, 2, some .int)
abbrev mX5_byteAt : MI := (yX5_byteAt, cX5_byteAt, 2, some .int)
abbrev mX5_next : MI := (yX5_next, cX5_next, 2, none)
abbrev mX5_isWord : MI := (yX5_isWord, cX5_isWord, 4, some .boolean)
abbrev mX5_must : MI := (yX5_must, cX5_must, 2, none)
abbrev mX5_number : MI := (yX5_number, cX5_number, 4, some .int)
abbrev mX5_row : MI := (yX5_row, cX5_row, 5, none)
abbrev mX5_kindTold : MI := (yX5_kindTold, cX5_kindTold, 3, some .int)
abbrev mX5_isNext : MI := (yX5_isNext, cX5_isNext, 3, some .boolean)
abbrev mX5_readItem : MI := (yX5_readItem, cX5_readItem, 6, none)
abbrev mX5_isSo : MI := (yX5_isSo, cX5_isSo, 4, some .int)
abbrev mX5_text : MI := (yX5_text, cX5_text, 3, some .int)
abbrev mX5_isSpot : MI := (yX5_isSpot, cX5_isSpot, 1, some .boolean)
abbrev mX5_hold : MI := (yX5_hold, cX5_hold, 3, some .int)
abbrev mX5_as : MI := (yX5_as, cX5_as, 4, some .int)
abbrev mX5_isSheet : MI := (yX5_isSheet, cX5_isSheet, 1, some .boolean)
abbrev mX5_cutTo : MI := (yX5_cutTo, cX5_cutTo, 2, some .int)
abbrev mX5_sheet : MI := (yX5_sheet, cX5_sheet, 5, some .int)
abbrev mX5_write : MI := (yX5_write, cX5_write, 4, some .int)
abbrev mX5_copy : MI := (yX5_copy, cX5_copy, 7, some .int)
abbrev mX5_load : MI := (yX5_load, cX5_load, 3, some .int)
abbrev mX5_judge : MI := (yX5_judge, cX5_judge, 4, some .int)
abbrev mX5_image : MI := (yX5_image, cX5_image, 1, some .int)
abbrev mX5_undo : MI := (yX5_undo, cX5_undo, 1, some .int)
abbrev mX5_tear : MI := (yX5_tear, cX5_tear, 2, some .int)
abbrev mX5_count : MI := (yX5_count, cX5_count, 4, some .int)
abbrev mX5_status : MI := (yX5_status, cX5_status, 2, some .int)
abbrev mJ9_max_7cf53 : MI := (yJ9_max_7cf53, cJ9_max_7cf53, 2, some .int)
abbrev mJ9_min_7cf53 : MI := (yJ9_min_7cf53, cJ9_min_7cf53, 2, some .int)
theorem sJ7_fill_53178 : SI mJ7_fill_53178 2 := ⟨tb_1 30 (by with_unfolding_all rfl), tb_1 29 (by decide +kernel), tb_1 3 (by decide +kernel), by decide +kernel, by decide⟩
theorem vX0_has : VI mX0_has 1 := ⟨tb_1 203 (by with_unfolding_all rfl), tb_1 201 (by decide +kernel), tb_1 202 (by decide +kernel), tb_1 2 (by decide +kernel), by decide +kernel, by decide⟩
theorem vX0_addRoom : VI mX0_addRoom 1 := ⟨tb_1 195 (by with_unfolding_all rfl), tb_1 193 (by decide +kernel), tb_1 194 (by decide +kernel), tb_1 2 (by decide +kernel), by decide +kernel, by decide⟩
theorem vX0_rowOf : VI mX0_rowOf 1 := ⟨tb_1 214 (by with_unfolding_all rfl), tb_1 212 (by decide +kernel), tb_1 213 (by decide +kernel), tb_1 2 (by decide +kernel), by decide +kernel, by decide⟩
theorem vX0_fits : VI mX0_fits 3 := ⟨tb_1 222 (by with_unfolding_all rfl), tb_1 220 (by decide +kernel), tb_1 221 (by decide +kernel), tb_1 2 (by decide +kernel), by decide +kernel, by decide⟩
theorem vX0_becomes : VI mX0_becomes 1 := ⟨tb_2 79 (by with_unfolding_all rfl), tb_2 77 (by decide +kernel), tb_2 78 (by decide +kernel), tb_1 2 (by decide +kernel), by decide +kernel, by decide⟩
theorem vX0_wants : VI mX0_wants 1 := ⟨tb_1 207 (by with_unfolding_all rfl), tb_1 205 (by decide +kernel), tb_1 206 (by decide +kernel), tb_1 2 (by decide +kernel), by decide +kernel, by decide⟩
theorem vX0_stokes : VI mX0_stokes 1 := ⟨tb_2 39 (by with_unfolding_all rfl), tb_2 37 (by decide +kernel), tb_2 38 (by decide +kernel), tb_1 2 (by decide +kernel), by decide +kernel, by decide⟩
theorem vX0_heat : VI mX0_heat 0 := ⟨tb_2 44 (by with_unfolding_all rfl), tb_2 43 (by decide +kernel), tb_s 2 (by decide +kernel), tb_1 2 (by decide +kernel), by decide +kernel, by decide⟩
theorem vX0_lostBy : VI mX0_lostBy 1 := ⟨tb_2 51 (by with_unfolding_all rfl), tb_2 50 (by decide +kernel), tb_s 3 (by decide +kernel), tb_1 2 (by decide +kernel), by decide +kernel, by decide⟩
theorem vX0_passHour : VI mX0_passHour 0 := ⟨tb_2 35 (by with_unfolding_all rfl), tb_2 33 (by decide +kernel), tb_2 34 (by decide +kernel), tb_1 2 (by decide +kernel), by decide +kernel, by decide⟩
theorem vX0_passHours : VI mX0_passHours 1 := ⟨tb_2 31 (by with_unfolding_all rfl), tb_2 29 (by decide +kernel), tb_2 30 (by decide +kernel), tb_1 2 (by decide +kernel), by decide +kernel, by decide⟩
theorem vX0_nextIsRest : VI mX0_nextIsRest 0 := ⟨tb_2 113 (by with_unfolding_all rfl), tb_2 111 (by decide +kernel), tb_2 112 (by decide +kernel), tb_1 2 (by decide +kernel), by decide +kernel, by decide⟩
theorem vX0_stokesLike : VI mX0_stokesLike 1 := ⟨tb_2 125 (by with_unfolding_all rfl), tb_2 123 (by decide +kernel), tb_2 124 (by decide +kernel), tb_1 2 (by decide +kernel), by decide +kernel, by decide⟩
theorem sX0_swap : SI mX0_swap 3 := ⟨tb_2 18 (by with_unfolding_all rfl), tb_2 17 (by decide +kernel), tb_1 2 (by decide +kernel), by decide +kernel, by decide⟩
theorem vX0_changePlaces : VI mX0_changePlaces 2 := ⟨tb_2 15 (by with_unfolding_all rfl), tb_2 13 (by decide +kernel), tb_2 14 (by decide +kernel), tb_1 2 (by decide +kernel), by decide +kernel, by decide⟩
theorem sX4_isKind : SI mX4_isKind 1 := ⟨tb_1 185 (by with_unfolding_all rfl), tb_1 184 (by decide +kernel), tb_1 1 (by decide +kernel), by decide +kernel, by decide⟩
theorem vX0_isOneOf : VI mX0_isOneOf 2 := ⟨tb_3 161 (by with_unfolding_all rfl), tb_3 159 (by decide +kernel), tb_3 160 (by decide +kernel), tb_1 2 (by decide +kernel), by decide +kernel, by decide⟩
theorem vX0_heatersOf : VI mX0_heatersOf 1 := ⟨tb_1 239 (by with_unfolding_all rfl), tb_1 237 (by decide +kernel), tb_1 238 (by decide +kernel), tb_1 2 (by decide +kernel), by decide +kernel, by decide⟩
theorem vX0_reachedFrom : VI mX0_reachedFrom 1 := ⟨tb_2 7 (by with_unfolding_all rfl), tb_2 5 (by decide +kernel), tb_2 6 (by decide +kernel), tb_1 2 (by decide +kernel), by decide +kernel, by decide⟩
theorem vX0_coldRooms : VI mX0_coldRooms 0 := ⟨tb_2 59 (by with_unfolding_all rfl), tb_2 57 (by decide +kernel), tb_2 58 (by decide +kernel), tb_1 2 (by decide +kernel), by decide +kernel, by decide⟩
theorem vX0_awayRooms : VI mX0_awayRooms 0 := ⟨tb_3 7 (by with_unfolding_all rfl), tb_3 5 (by decide +kernel), tb_3 6 (by decide +kernel), tb_1 2 (by decide +kernel), by decide +kernel, by decide⟩
theorem vX0_warmerThan : VI mX0_warmerThan 1 := ⟨tb_2 141 (by with_unfolding_all rfl), tb_2 139 (by decide +kernel), tb_2 140 (by decide +kernel), tb_1 2 (by decide +kernel), by decide +kernel, by decide⟩
theorem vX0_sumOf : VI mX0_sumOf 1 := ⟨tb_2 63 (by with_unfolding_all rfl), tb_2 61 (by decide +kernel), tb_2 62 (by decide +kernel), tb_1 2 (by decide +kernel), by decide +kernel, by decide⟩
theorem vX0_coldestRoom : VI mX0_coldestRoom 0 := ⟨tb_2 67 (by with_unfolding_all rfl), tb_2 65 (by decide +kernel), tb_2 66 (by decide +kernel), tb_1 2 (by decide +kernel), by decide +kernel, by decide⟩
theorem vX0_leastWarmth : VI mX0_leastWarmth 0 := ⟨tb_2 86 (by with_unfolding_all rfl), tb_2 84 (by decide +kernel), tb_2 85 (by decide +kernel), tb_1 2 (by decide +kernel), by decide +kernel, by decide⟩
theorem vX0_spotsInUse : VI mX0_spotsInUse 0 := ⟨tb_3 227 (by with_unfolding_all rfl), tb_3 225 (by decide +kernel), tb_3 226 (by decide +kernel), tb_1 2 (by decide +kernel), by decide +kernel, by decide⟩
theorem vX0_draw : VI mX0_draw 0 := ⟨tb_3 2 (by with_unfolding_all rfl), tb_3 0 (by decide +kernel), tb_3 1 (by decide +kernel), tb_1 2 (by decide +kernel), by decide +kernel, by decide⟩
theorem vX0_gotIfColdBy : VI mX0_gotIfColdBy 2 := ⟨tb_2 230 (by with_unfolding_all rfl), tb_2 229 (by decide +kernel), tb_s 16 (by decide +kernel), tb_1 2 (by decide +kernel), by decide +kernel, by decide⟩
theorem vX0_gotAsIfColdBy : VI mX0_gotAsIfColdBy 1 := ⟨tb_2 226 (by with_unfolding_all rfl), tb_2 224 (by decide +kernel), tb_2 225 (by decide +kernel), tb_1 2 (by decide +kernel), by decide +kernel, by decide⟩
theorem vX1_renew : VI mX1_renew 2 := ⟨tb_3 177 (by with_unfolding_all rfl), tb_3 175 (by decide +kernel), tb_3 176 (by decide +kernel), tb_1 6 (by decide +kernel), by decide +kernel, by decide⟩
theorem vX1_has : VI mX1_has 2 := ⟨tb_3 190 (by with_unfolding_all rfl), tb_3 188 (by decide +kernel), tb_3 189 (by decide +kernel), tb_1 6 (by decide +kernel), by decide +kernel, by decide⟩
theorem vX1_put : VI mX1_put 2 := ⟨tb_3 194 (by with_unfolding_all rfl), tb_3 192 (by decide +kernel), tb_3 193 (by decide +kernel), tb_1 6 (by decide +kernel), by decide +kernel, by decide⟩
theorem vX2_append : VI mX2_append 2 := ⟨tb_3 19 (by with_unfolding_all rfl), tb_3 17 (by decide +kernel), tb_3 18 (by decide +kernel), tb_1 5 (by decide +kernel), by decide +kernel, by decide⟩
theorem vX2_byteAt : VI mX2_byteAt 1 := ⟨tb_3 40 (by with_unfolding_all rfl), tb_3 38 (by decide +kernel), tb_3 39 (by decide +kernel), tb_1 5 (by decide +kernel), by decide +kernel, by decide⟩
theorem sX3_tokenBegunBy : SI mX3_tokenBegunBy 1 := ⟨tb_3 43 (by with_unfolding_all rfl), tb_3 42 (by decide +kernel), tb_1 4 (by decide +kernel), by decide +kernel, by decide⟩
theorem vX3_step : VI mX3_step 0 := ⟨tb_3 36 (by with_unfolding_all rfl), tb_3 35 (by decide +kernel), tb_s 17 (by decide +kernel), tb_1 4 (by decide +kernel), by decide +kernel, by decide⟩
theorem sX3_wordOfKind : SI mX3_wordOfKind 1 := ⟨tb_3 55 (by with_unfolding_all rfl), tb_3 54 (by decide +kernel), tb_1 4 (by decide +kernel), by decide +kernel, by decide⟩
theorem vJ0_coder_7d493 : VI mJ0_coder_7d493 0 := ⟨tb_3 74 (by with_unfolding_all rfl), tb_3 72 (by decide +kernel), tb_3 73 (by decide +kernel), tb_1 10 (by decide +kernel), by decide +kernel, by decide⟩
theorem vJ0_length_8abf5 : VI mJ0_length_8abf5 0 := ⟨tb_3 70 (by with_unfolding_all rfl), tb_3 68 (by decide +kernel), tb_3 69 (by decide +kernel), tb_1 10 (by decide +kernel), by decide +kernel, by decide⟩
theorem vJ0_isLatin1_aae02 : VI mJ0_isLatin1_aae02 0 := ⟨tb_3 84 (by with_unfolding_all rfl), tb_3 82 (by decide +kernel), tb_3 83 (by decide +kernel), tb_1 10 (by decide +kernel), by decide +kernel, by decide⟩
theorem sJ3_checkIndex_8e157 : SI mJ3_checkIndex_8e157 3 := ⟨tb_3 95 (by with_unfolding_all rfl), tb_3 94 (by decide +kernel), tb_1 12 (by decide +kernel), by decide +kernel, by decide⟩
theorem sJ0_checkIndex_df160 : SI mJ0_checkIndex_df160 2 := ⟨tb_3 90 (by with_unfolding_all rfl), tb_3 89 (by decide +kernel), tb_1 10 (by decide +kernel), by decide +kernel, by decide⟩
theorem sJ1_charAt_3b067 : SI mJ1_charAt_3b067 2 := ⟨tb_3 87 (by with_unfolding_all rfl), tb_3 86 (by decide +kernel), tb_1 11 (by decide +kernel), by decide +kernel, by decide⟩
theorem sJ2_length_9d52b : SI mJ2_length_9d52b 1 := ⟨tb_3 104 (by with_unfolding_all rfl), tb_3 103 (by decide +kernel), tb_1 13 (by decide +kernel), by decide +kernel, by decide⟩
theorem sJ2_checkIndex_2214a : SI mJ2_checkIndex_2214a 2 := ⟨tb_3 101 (by with_unfolding_all rfl), tb_3 100 (by decide +kernel), tb_1 13 (by decide +kernel), by decide +kernel, by decide⟩
theorem sJ2_getChar_3b067 : SI mJ2_getChar_3b067 2 := ⟨tb_3 108 (by with_unfolding_all rfl), tb_3 107 (by decide +kernel), tb_1 13 (by decide +kernel), by decide +kernel, by decide⟩
theorem sJ2_charAt_3b067 : SI mJ2_charAt_3b067 2 := ⟨tb_3 98 (by with_unfolding_all rfl), tb_3 97 (by decide +kernel), tb_1 13 (by decide +kernel), by decide +kernel, by decide⟩
theorem vJ0_charAt_5068e : VI mJ0_charAt_5068e 1 := ⟨tb_3 80 (by with_unfolding_all rfl), tb_3 78 (by decide +kernel), tb_3 79 (by decide +kernel), tb_1 10 (by decide +kernel), by decide +kernel, by decide⟩
theorem vX3_isWord : VI mX3_isWord 1 := ⟨tb_3 66 (by with_unfolding_all rfl), tb_3 65 (by decide +kernel), tb_s 20 (by decide +kernel), tb_1 4 (by decide +kernel), by decide +kernel, by decide⟩
theorem vX3_kindTold : VI mX3_kindTold 0 := ⟨tb_3 52 (by with_unfolding_all rfl), tb_3 51 (by decide +kernel), tb_s 19 (by decide +kernel), tb_1 4 (by decide +kernel), by decide +kernel, by decide⟩
theorem sX3_wordOfPart : SI mX3_wordOfPart 1 := ⟨tb_3 122 (by with_unfolding_all rfl), tb_3 121 (by decide +kernel), tb_1 4 (by decide +kernel), by decide +kernel, by decide⟩
theorem vX3_readValue : VI mX3_readValue 2 := ⟨tb_3 130 (by with_unfolding_all rfl), tb_3 129 (by decide +kernel), tb_s 22 (by decide +kernel), tb_1 4 (by decide +kernel), by decide +kernel, by decide⟩
theorem vX3_readRoom : VI mX3_readRoom 1 := ⟨tb_3 118 (by with_unfolding_all rfl), tb_3 117 (by decide +kernel), tb_s 21 (by decide +kernel), tb_1 4 (by decide +kernel), by decide +kernel, by decide⟩
theorem vX3_readOut : VI mX3_readOut 0 := ⟨tb_3 139 (by with_unfolding_all rfl), tb_3 138 (by decide +kernel), tb_s 23 (by decide +kernel), tb_1 4 (by decide +kernel), by decide +kernel, by decide⟩
theorem vX3_readDamper : VI mX3_readDamper 0 := ⟨tb_3 144 (by with_unfolding_all rfl), tb_3 143 (by decide +kernel), tb_s 24 (by decide +kernel), tb_1 4 (by decide +kernel), by decide +kernel, by decide⟩
theorem vX3_readItem : VI mX3_readItem 0 := ⟨tb_3 48 (by with_unfolding_all rfl), tb_3 47 (by decide +kernel), tb_s 18 (by decide +kernel), tb_1 4 (by decide +kernel), by decide +kernel, by decide⟩
theorem vX3_read : VI mX3_read 1 := ⟨tb_3 31 (by with_unfolding_all rfl), tb_3 29 (by decide +kernel), tb_3 30 (by decide +kernel), tb_1 4 (by decide +kernel), by decide +kernel, by decide⟩
theorem vX4_tell : VI mX4_tell 1 := ⟨tb_1 190 (by with_unfolding_all rfl), tb_1 189 (by decide +kernel), tb_s 0 (by decide +kernel), tb_1 1 (by decide +kernel), by decide +kernel, by decide⟩
theorem vX4_room : VI mX4_room 1 := ⟨tb_1 182 (by with_unfolding_all rfl), tb_1 180 (by decide +kernel), tb_1 181 (by decide +kernel), tb_1 1 (by decide +kernel), by decide +kernel, by decide⟩
theorem vX4_of : VI mX4_of 2 := ⟨tb_1 199 (by with_unfolding_all rfl), tb_1 197 (by decide +kernel), tb_1 198 (by decide +kernel), tb_1 1 (by decide +kernel), by decide +kernel, by decide⟩
theorem vX4_change : VI mX4_change 3 := ⟨tb_1 218 (by with_unfolding_all rfl), tb_1 216 (by decide +kernel), tb_1 217 (by decide +kernel), tb_1 1 (by decide +kernel), by decide +kernel, by decide⟩
theorem vX4_out : VI mX4_out 1 := ⟨tb_1 231 (by with_unfolding_all rfl), tb_1 229 (by decide +kernel), tb_1 230 (by decide +kernel), tb_1 1 (by decide +kernel), by decide +kernel, by decide⟩
theorem vX4_heaters : VI mX4_heaters 1 := ⟨tb_1 235 (by with_unfolding_all rfl), tb_1 233 (by decide +kernel), tb_1 234 (by decide +kernel), tb_1 1 (by decide +kernel), by decide +kernel, by decide⟩
theorem vX4_reach : VI mX4_reach 1 := ⟨tb_2 3 (by with_unfolding_all rfl), tb_2 1 (by decide +kernel), tb_2 2 (by decide +kernel), tb_1 1 (by decide +kernel), by decide +kernel, by decide⟩
theorem vX4_move : VI mX4_move 2 := ⟨tb_2 11 (by with_unfolding_all rfl), tb_2 9 (by decide +kernel), tb_2 10 (by decide +kernel), tb_1 1 (by decide +kernel), by decide +kernel, by decide⟩
theorem vX4_findingOfHours : VI mX4_findingOfHours 2 := ⟨tb_2 26 (by with_unfolding_all rfl), tb_2 25 (by decide +kernel), tb_s 1 (by decide +kernel), tb_1 1 (by decide +kernel), by decide +kernel, by decide⟩
theorem vX4_hours : VI mX4_hours 1 := ⟨tb_2 22 (by with_unfolding_all rfl), tb_2 20 (by decide +kernel), tb_2 21 (by decide +kernel), tb_1 1 (by decide +kernel), by decide +kernel, by decide⟩
theorem vX4_now : VI mX4_now 1 := ⟨tb_2 55 (by with_unfolding_all rfl), tb_2 53 (by decide +kernel), tb_2 54 (by decide +kernel), tb_1 1 (by decide +kernel), by decide +kernel, by decide⟩
theorem vX4_startTrial : VI mX4_startTrial 0 := ⟨tb_2 75 (by with_unfolding_all rfl), tb_2 74 (by decide +kernel), tb_s 4 (by decide +kernel), tb_1 1 (by decide +kernel), by decide +kernel, by decide⟩
theorem vX4_ahead : VI mX4_ahead 2 := ⟨tb_2 71 (by with_unfolding_all rfl), tb_2 69 (by decide +kernel), tb_2 70 (by decide +kernel), tb_1 1 (by decide +kernel), by decide +kernel, by decide⟩
theorem vX4_isLate : VI mX4_isLate 0 := ⟨tb_2 99 (by with_unfolding_all rfl), tb_2 98 (by decide +kernel), tb_s 6 (by decide +kernel), tb_1 1 (by decide +kernel), by decide +kernel, by decide⟩
theorem vX4_firstBelow : VI mX4_firstBelow 3 := ⟨tb_2 95 (by with_unfolding_all rfl), tb_2 94 (by decide +kernel), tb_s 5 (by decide +kernel), tb_1 1 (by decide +kernel), by decide +kernel, by decide⟩
theorem vX4_cold : VI mX4_cold 1 := ⟨tb_2 91 (by with_unfolding_all rfl), tb_2 89 (by decide +kernel), tb_2 90 (by decide +kernel), tb_1 1 (by decide +kernel), by decide +kernel, by decide⟩
theorem vX4_spent : VI mX4_spent 1 := ⟨tb_2 105 (by with_unfolding_all rfl), tb_2 103 (by decide +kernel), tb_2 104 (by decide +kernel), tb_1 1 (by decide +kernel), by decide +kernel, by decide⟩
theorem vX4_rest : VI mX4_rest 0 := ⟨tb_2 109 (by with_unfolding_all rfl), tb_2 107 (by decide +kernel), tb_2 108 (by decide +kernel), tb_1 1 (by decide +kernel), by decide +kernel, by decide⟩
theorem vX4_goAsItGoes : VI mX4_goAsItGoes 1 := ⟨tb_2 121 (by with_unfolding_all rfl), tb_2 120 (by decide +kernel), tb_s 7 (by decide +kernel), tb_1 1 (by decide +kernel), by decide +kernel, by decide⟩
theorem vX4_circle : VI mX4_circle 0 := ⟨tb_2 117 (by with_unfolding_all rfl), tb_2 115 (by decide +kernel), tb_2 116 (by decide +kernel), tb_1 1 (by decide +kernel), by decide +kernel, by decide⟩
theorem vX4_findingOfRoomAhead : VI mX4_findingOfRoomAhead 2 := ⟨tb_2 133 (by with_unfolding_all rfl), tb_2 132 (by decide +kernel), tb_s 8 (by decide +kernel), tb_1 1 (by decide +kernel), by decide +kernel, by decide⟩
theorem vX4_goWith : VI mX4_goWith 4 := ⟨tb_2 137 (by with_unfolding_all rfl), tb_2 136 (by decide +kernel), tb_s 9 (by decide +kernel), tb_1 1 (by decide +kernel), by decide +kernel, by decide⟩
theorem vX4_spread : VI mX4_spread 2 := ⟨tb_2 129 (by with_unfolding_all rfl), tb_2 127 (by decide +kernel), tb_2 128 (by decide +kernel), tb_1 1 (by decide +kernel), by decide +kernel, by decide⟩
theorem vX4_bestForItself : VI mX4_bestForItself 3 := ⟨tb_2 149 (by with_unfolding_all rfl), tb_2 148 (by decide +kernel), tb_s 10 (by decide +kernel), tb_1 1 (by decide +kernel), by decide +kernel, by decide⟩
theorem vX4_kindFor : VI mX4_kindFor 2 := ⟨tb_2 145 (by with_unfolding_all rfl), tb_2 143 (by decide +kernel), tb_2 144 (by decide +kernel), tb_1 1 (by decide +kernel), by decide +kernel, by decide⟩
theorem vX4_tempted : VI mX4_tempted 1 := ⟨tb_2 155 (by with_unfolding_all rfl), tb_2 153 (by decide +kernel), tb_2 154 (by decide +kernel), tb_1 1 (by decide +kernel), by decide +kernel, by decide⟩
theorem vX4_takenByAbsence : VI mX4_takenByAbsence 2 := ⟨tb_2 163 (by with_unfolding_all rfl), tb_2 162 (by decide +kernel), tb_s 11 (by decide +kernel), tb_1 1 (by decide +kernel), by decide +kernel, by decide⟩
theorem vX4_missed : VI mX4_missed 1 := ⟨tb_2 159 (by with_unfolding_all rfl), tb_2 157 (by decide +kernel), tb_2 158 (by decide +kernel), tb_1 1 (by decide +kernel), by decide +kernel, by decide⟩
theorem vX4_findingOfPairs : VI mX4_findingOfPairs 1 := ⟨tb_2 171 (by with_unfolding_all rfl), tb_2 170 (by decide +kernel), tb_s 12 (by decide +kernel), tb_1 1 (by decide +kernel), by decide +kernel, by decide⟩
theorem vX4_goWithMove : VI mX4_goWithMove 3 := ⟨tb_2 179 (by with_unfolding_all rfl), tb_2 178 (by decide +kernel), tb_s 14 (by decide +kernel), tb_1 1 (by decide +kernel), by decide +kernel, by decide⟩
theorem vX4_bestPair : VI mX4_bestPair 1 := ⟨tb_2 175 (by with_unfolding_all rfl), tb_2 174 (by decide +kernel), tb_s 13 (by decide +kernel), tb_1 1 (by decide +kernel), by decide +kernel, by decide⟩
theorem vX4_warmest : VI mX4_warmest 1 := ⟨tb_2 167 (by with_unfolding_all rfl), tb_2 165 (by decide +kernel), tb_2 166 (by decide +kernel), tb_1 1 (by decide +kernel), by decide +kernel, by decide⟩
theorem vX4_exchange : VI mX4_exchange 1 := ⟨tb_2 183 (by with_unfolding_all rfl), tb_2 181 (by decide +kernel), tb_2 182 (by decide +kernel), tb_1 1 (by decide +kernel), by decide +kernel, by decide⟩
theorem vX4_deal : VI mX4_deal 1 := ⟨tb_2 187 (by with_unfolding_all rfl), tb_2 185 (by decide +kernel), tb_2 186 (by decide +kernel), tb_1 1 (by decide +kernel), by decide +kernel, by decide⟩
theorem sX4_memberOf : SI mX4_memberOf 2 := ⟨tb_2 198 (by with_unfolding_all rfl), tb_2 197 (by decide +kernel), tb_1 1 (by decide +kernel), by decide +kernel, by decide⟩
theorem vX4_dealKinds : VI mX4_dealKinds 2 := ⟨tb_2 195 (by with_unfolding_all rfl), tb_2 194 (by decide +kernel), tb_s 15 (by decide +kernel), tb_1 1 (by decide +kernel), by decide +kernel, by decide⟩
theorem vX4_orders : VI mX4_orders 2 := ⟨tb_2 191 (by with_unfolding_all rfl), tb_2 189 (by decide +kernel), tb_2 190 (by decide +kernel), tb_1 1 (by decide +kernel), by decide +kernel, by decide⟩
theorem vX4_coal : VI mX4_coal 2 := ⟨tb_2 202 (by with_unfolding_all rfl), tb_2 200 (by decide +kernel), tb_2 201 (by decide +kernel), tb_1 1 (by decide +kernel), by decide +kernel, by decide⟩
theorem vX4_wall : VI mX4_wall 2 := ⟨tb_2 206 (by with_unfolding_all rfl), tb_2 204 (by decide +kernel), tb_2 205 (by decide +kernel), tb_1 1 (by decide +kernel), by decide +kernel, by decide⟩
theorem vX4_turn : VI mX4_turn 2 := ⟨tb_2 210 (by with_unfolding_all rfl), tb_2 208 (by decide +kernel), tb_2 209 (by decide +kernel), tb_1 1 (by decide +kernel), by decide +kernel, by decide⟩
theorem vX4_damper : VI mX4_damper 2 := ⟨tb_2 214 (by with_unfolding_all rfl), tb_2 212 (by decide +kernel), tb_2 213 (by decide +kernel), tb_1 1 (by decide +kernel), by decide +kernel, by decide⟩
theorem vX4_own : VI mX4_own 1 := ⟨tb_2 218 (by with_unfolding_all rfl), tb_2 216 (by decide +kernel), tb_2 217 (by decide +kernel), tb_1 1 (by decide +kernel), by decide +kernel, by decide⟩
theorem vX4_culprits : VI mX4_culprits 0 := ⟨tb_2 222 (by with_unfolding_all rfl), tb_2 220 (by decide +kernel), tb_2 221 (by decide +kernel), tb_1 1 (by decide +kernel), by decide +kernel, by decide⟩
theorem vX4_surely : VI mX4_surely 1 := ⟨tb_2 234 (by with_unfolding_all rfl), tb_2 232 (by decide +kernel), tb_2 233 (by decide +kernel), tb_1 1 (by decide +kernel), by decide +kernel, by decide⟩
theorem vX4_travel : VI mX4_travel 1 := ⟨tb_2 238 (by with_unfolding_all rfl), tb_2 236 (by decide +kernel), tb_2 237 (by decide +kernel), tb_1 1 (by decide +kernel), by decide +kernel, by decide⟩
theorem vX4_seed : VI mX4_seed 1 := ⟨tb_3 11 (by with_unfolding_all rfl), tb_3 9 (by decide +kernel), tb_3 10 (by decide +kernel), tb_1 1 (by decide +kernel), by decide +kernel, by decide⟩
theorem vX4_feed : VI mX4_feed 2 := ⟨tb_3 15 (by with_unfolding_all rfl), tb_3 13 (by decide +kernel), tb_3 14 (by decide +kernel), tb_1 1 (by decide +kernel), by decide +kernel, by decide⟩
theorem vX4_wipe : VI mX4_wipe 0 := ⟨tb_3 23 (by with_unfolding_all rfl), tb_3 21 (by decide +kernel), tb_3 22 (by decide +kernel), tb_1 1 (by decide +kernel), by decide +kernel, by decide⟩
theorem vX4_text : VI mX4_text 0 := ⟨tb_3 27 (by with_unfolding_all rfl), tb_3 25 (by decide +kernel), tb_3 26 (by decide +kernel), tb_1 1 (by decide +kernel), by decide +kernel, by decide⟩
theorem sX4_isSpot : SI mX4_isSpot 1 := ⟨tb_3 152 (by with_unfolding_all rfl), tb_3 151 (by decide +kernel), tb_1 1 (by decide +kernel), by decide +kernel, by decide⟩
theorem vX4_hold : VI mX4_hold 2 := ⟨tb_3 149 (by with_unfolding_all rfl), tb_3 147 (by decide +kernel), tb_3 148 (by decide +kernel), tb_1 1 (by decide +kernel), by decide +kernel, by decide⟩
theorem vX4_as : VI mX4_as 2 := ⟨tb_3 156 (by with_unfolding_all rfl), tb_3 154 (by decide +kernel), tb_3 155 (by decide +kernel), tb_1 1 (by decide +kernel), by decide +kernel, by decide⟩
theorem sX4_isSheet : SI mX4_isSheet 1 := ⟨tb_3 172 (by with_unfolding_all rfl), tb_3 171 (by decide +kernel), tb_1 1 (by decide +kernel), by decide +kernel, by decide⟩
theorem vX4_sheet : VI mX4_sheet 3 := ⟨tb_3 169 (by with_unfolding_all rfl), tb_3 167 (by decide +kernel), tb_3 168 (by decide +kernel), tb_1 1 (by decide +kernel), by decide +kernel, by decide⟩
theorem vX4_findingOfSheet : VI mX4_findingOfSheet 1 := ⟨tb_3 186 (by with_unfolding_all rfl), tb_3 185 (by decide +kernel), tb_s 25 (by decide +kernel), tb_1 1 (by decide +kernel), by decide +kernel, by decide⟩
theorem vX4_write : VI mX4_write 3 := ⟨tb_3 182 (by with_unfolding_all rfl), tb_3 180 (by decide +kernel), tb_3 181 (by decide +kernel), tb_1 1 (by decide +kernel), by decide +kernel, by decide⟩
theorem vX4_copy : VI mX4_copy 5 := ⟨tb_3 198 (by with_unfolding_all rfl), tb_3 196 (by decide +kernel), tb_3 197 (by decide +kernel), tb_1 1 (by decide +kernel), by decide +kernel, by decide⟩
theorem vX4_load : VI mX4_load 1 := ⟨tb_3 203 (by with_unfolding_all rfl), tb_3 201 (by decide +kernel), tb_3 202 (by decide +kernel), tb_1 1 (by decide +kernel), by decide +kernel, by decide⟩
theorem vX4_judge : VI mX4_judge 2 := ⟨tb_3 207 (by with_unfolding_all rfl), tb_3 205 (by decide +kernel), tb_3 206 (by decide +kernel), tb_1 1 (by decide +kernel), by decide +kernel, by decide⟩
theorem vX4_image : VI mX4_image 0 := ⟨tb_3 211 (by with_unfolding_all rfl), tb_3 209 (by decide +kernel), tb_3 210 (by decide +kernel), tb_1 1 (by decide +kernel), by decide +kernel, by decide⟩
theorem vX4_undo : VI mX4_undo 0 := ⟨tb_3 215 (by with_unfolding_all rfl), tb_3 213 (by decide +kernel), tb_3 214 (by decide +kernel), tb_1 1 (by decide +kernel), by decide +kernel, by decide⟩
theorem vX4_tear : VI mX4_tear 0 := ⟨tb_3 219 (by with_unfolding_all rfl), tb_3 217 (by decide +kernel), tb_3 218 (by decide +kernel), tb_1 1 (by decide +kernel), by decide +kernel, by decide⟩
theorem vX4_count : VI mX4_count 1 := ⟨tb_3 223 (by with_unfolding_all rfl), tb_3 221 (by decide +kernel), tb_3 222 (by decide +kernel), tb_1 1 (by decide +kernel), by decide +kernel, by decide⟩
theorem vX4_status : VI mX4_status 1 := ⟨tb_3 231 (by with_unfolding_all rfl), tb_3 229 (by decide +kernel), tb_3 230 (by decide +kernel), tb_1 1 (by decide +kernel), by decide +kernel, by decide⟩
theorem vX5_finding : VI mX5_finding 1 := ⟨tb_4 131 (by with_unfolding_all rfl), tb_4 130 (by decide +kernel), tb_s 26 (by decide +kernel), tb_1 7 (by decide +kernel), by decide +kernel, by decide⟩
theorem sX5_within : SI mX5_within 3 := ⟨tb_4 126 (by with_unfolding_all rfl), tb_4 125 (by decide +kernel), tb_1 7 (by decide +kernel), by decide +kernel, by decide⟩
theorem vX5_become : VI mX5_become 2 := ⟨tb_4 164 (by with_unfolding_all rfl), tb_4 163 (by decide +kernel), tb_s 31 (by decide +kernel), tb_1 7 (by decide +kernel), by decide +kernel, by decide⟩
theorem sX5_copyRow : SI mX5_copyRow 2 := ⟨tb_5 0 (by with_unfolding_all rfl), tb_4 239 (by decide +kernel), tb_1 7 (by decide +kernel), by decide +kernel, by decide⟩
theorem vX5_putBack : VI mX5_putBack 1 := ⟨tb_5 8 (by with_unfolding_all rfl), tb_5 7 (by decide +kernel), tb_s 43 (by decide +kernel), tb_1 7 (by decide +kernel), by decide +kernel, by decide⟩
theorem sX5_has : SI mX5_has 2 := ⟨tb_4 183 (by with_unfolding_all rfl), tb_4 182 (by decide +kernel), tb_1 7 (by decide +kernel), by decide +kernel, by decide⟩
theorem vX5_isRoom : VI mX5_isRoom 1 := ⟨tb_4 147 (by with_unfolding_all rfl), tb_4 146 (by decide +kernel), tb_s 28 (by decide +kernel), tb_1 7 (by decide +kernel), by decide +kernel, by decide⟩
theorem sX5_isKind : SI mX5_isKind 1 := ⟨tb_4 123 (by with_unfolding_all rfl), tb_4 122 (by decide +kernel), tb_1 7 (by decide +kernel), by decide +kernel, by decide⟩
theorem sX5_at : SI mX5_at 2 := ⟨tb_4 139 (by with_unfolding_all rfl), tb_4 138 (by decide +kernel), tb_1 7 (by decide +kernel), by decide +kernel, by decide⟩
theorem vX5_roomIs : VI mX5_roomIs 2 := ⟨tb_4 155 (by with_unfolding_all rfl), tb_4 154 (by decide +kernel), tb_s 30 (by decide +kernel), tb_1 7 (by decide +kernel), by decide +kernel, by decide⟩
theorem vX5_comes : VI mX5_comes 1 := ⟨tb_4 136 (by with_unfolding_all rfl), tb_4 135 (by decide +kernel), tb_s 27 (by decide +kernel), tb_1 7 (by decide +kernel), by decide +kernel, by decide⟩
theorem vX5_room : VI mX5_room 1 := ⟨tb_4 120 (by with_unfolding_all rfl), tb_4 118 (by decide +kernel), tb_4 119 (by decide +kernel), tb_1 7 (by decide +kernel), by decide +kernel, by decide⟩
theorem sX5_above : SI mX5_above 1 := ⟨tb_5 237 (by with_unfolding_all rfl), tb_5 236 (by decide +kernel), tb_1 7 (by decide +kernel), by decide +kernel, by decide⟩
theorem sX5_isUnder : SI mX5_isUnder 2 := ⟨tb_5 234 (by with_unfolding_all rfl), tb_5 233 (by decide +kernel), tb_1 7 (by decide +kernel), by decide +kernel, by decide⟩
theorem vX5_wants : VI mX5_wants 1 := ⟨tb_4 151 (by with_unfolding_all rfl), tb_4 150 (by decide +kernel), tb_s 29 (by decide +kernel), tb_1 7 (by decide +kernel), by decide +kernel, by decide⟩
theorem vX5_of : VI mX5_of 2 := ⟨tb_4 143 (by with_unfolding_all rfl), tb_4 141 (by decide +kernel), tb_4 142 (by decide +kernel), tb_1 7 (by decide +kernel), by decide +kernel, by decide⟩
theorem vX5_change : VI mX5_change 3 := ⟨tb_4 160 (by with_unfolding_all rfl), tb_4 158 (by decide +kernel), tb_4 159 (by decide +kernel), tb_1 7 (by decide +kernel), by decide +kernel, by decide⟩
theorem vX5_out : VI mX5_out 1 := ⟨tb_4 168 (by with_unfolding_all rfl), tb_4 166 (by decide +kernel), tb_4 167 (by decide +kernel), tb_1 7 (by decide +kernel), by decide +kernel, by decide⟩
theorem vX5_heatersOf : VI mX5_heatersOf 1 := ⟨tb_4 176 (by with_unfolding_all rfl), tb_4 175 (by decide +kernel), tb_s 32 (by decide +kernel), tb_1 7 (by decide +kernel), by decide +kernel, by decide⟩
theorem vX5_heaters : VI mX5_heaters 1 := ⟨tb_4 172 (by with_unfolding_all rfl), tb_4 170 (by decide +kernel), tb_4 171 (by decide +kernel), tb_1 7 (by decide +kernel), by decide +kernel, by decide⟩
theorem vX5_reach : VI mX5_reach 1 := ⟨tb_4 180 (by with_unfolding_all rfl), tb_4 178 (by decide +kernel), tb_4 179 (by decide +kernel), tb_1 7 (by decide +kernel), by decide +kernel, by decide⟩
theorem vX5_swap : VI mX5_swap 3 := ⟨tb_4 195 (by with_unfolding_all rfl), tb_4 194 (by decide +kernel), tb_s 34 (by decide +kernel), tb_1 7 (by decide +kernel), by decide +kernel, by decide⟩
theorem vX5_moved : VI mX5_moved 2 := ⟨tb_4 191 (by with_unfolding_all rfl), tb_4 190 (by decide +kernel), tb_s 33 (by decide +kernel), tb_1 7 (by decide +kernel), by decide +kernel, by decide⟩
theorem vX5_move : VI mX5_move 2 := ⟨tb_4 187 (by with_unfolding_all rfl), tb_4 185 (by decide +kernel), tb_4 186 (by decide +kernel), tb_1 7 (by decide +kernel), by decide +kernel, by decide⟩
theorem vX5_gets : VI mX5_gets 1 := ⟨tb_4 216 (by with_unfolding_all rfl), tb_4 215 (by decide +kernel), tb_s 38 (by decide +kernel), tb_1 7 (by decide +kernel), by decide +kernel, by decide⟩
theorem vX5_hour : VI mX5_hour 0 := ⟨tb_4 212 (by with_unfolding_all rfl), tb_4 211 (by decide +kernel), tb_s 37 (by decide +kernel), tb_1 7 (by decide +kernel), by decide +kernel, by decide⟩
theorem vX5_hoursGo : VI mX5_hoursGo 1 := ⟨tb_4 208 (by with_unfolding_all rfl), tb_4 207 (by decide +kernel), tb_s 36 (by decide +kernel), tb_1 7 (by decide +kernel), by decide +kernel, by decide⟩
theorem vX5_isTooLate : VI mX5_isTooLate 1 := ⟨tb_4 203 (by with_unfolding_all rfl), tb_4 202 (by decide +kernel), tb_s 35 (by decide +kernel), tb_1 7 (by decide +kernel), by decide +kernel, by decide⟩
theorem vX5_hours : VI mX5_hours 1 := ⟨tb_4 199 (by with_unfolding_all rfl), tb_4 197 (by decide +kernel), tb_4 198 (by decide +kernel), tb_1 7 (by decide +kernel), by decide +kernel, by decide⟩
theorem vX5_colds : VI mX5_colds 0 := ⟨tb_4 225 (by with_unfolding_all rfl), tb_4 224 (by decide +kernel), tb_s 39 (by decide +kernel), tb_1 7 (by decide +kernel), by decide +kernel, by decide⟩
theorem vX5_sum : VI mX5_sum 1 := ⟨tb_4 229 (by with_unfolding_all rfl), tb_4 228 (by decide +kernel), tb_s 40 (by decide +kernel), tb_1 7 (by decide +kernel), by decide +kernel, by decide⟩
theorem vX5_coldest : VI mX5_coldest 0 := ⟨tb_4 233 (by with_unfolding_all rfl), tb_4 232 (by decide +kernel), tb_s 41 (by decide +kernel), tb_1 7 (by decide +kernel), by decide +kernel, by decide⟩
theorem vX5_leastWarmth : VI mX5_leastWarmth 0 := ⟨tb_5 4 (by with_unfolding_all rfl), tb_5 3 (by decide +kernel), tb_s 42 (by decide +kernel), tb_1 7 (by decide +kernel), by decide +kernel, by decide⟩
theorem vX5_now : VI mX5_now 1 := ⟨tb_4 221 (by with_unfolding_all rfl), tb_4 219 (by decide +kernel), tb_4 220 (by decide +kernel), tb_1 7 (by decide +kernel), by decide +kernel, by decide⟩
theorem vX5_ahead : VI mX5_ahead 2 := ⟨tb_4 237 (by with_unfolding_all rfl), tb_4 235 (by decide +kernel), tb_4 236 (by decide +kernel), tb_1 7 (by decide +kernel), by decide +kernel, by decide⟩
theorem vX5_isLate : VI mX5_isLate 0 := ⟨tb_5 20 (by with_unfolding_all rfl), tb_5 19 (by decide +kernel), tb_s 45 (by decide +kernel), tb_1 7 (by decide +kernel), by decide +kernel, by decide⟩
theorem vX5_firstBelow : VI mX5_firstBelow 3 := ⟨tb_5 16 (by with_unfolding_all rfl), tb_5 15 (by decide +kernel), tb_s 44 (by decide +kernel), tb_1 7 (by decide +kernel), by decide +kernel, by decide⟩
theorem vX5_cold : VI mX5_cold 1 := ⟨tb_5 12 (by with_unfolding_all rfl), tb_5 10 (by decide +kernel), tb_5 11 (by decide +kernel), tb_1 7 (by decide +kernel), by decide +kernel, by decide⟩
theorem vX5_spent : VI mX5_spent 1 := ⟨tb_5 25 (by with_unfolding_all rfl), tb_5 23 (by decide +kernel), tb_5 24 (by decide +kernel), tb_1 7 (by decide +kernel), by decide +kernel, by decide⟩
theorem vX5_gave : VI mX5_gave 0 := ⟨tb_5 33 (by with_unfolding_all rfl), tb_5 32 (by decide +kernel), tb_s 46 (by decide +kernel), tb_1 7 (by decide +kernel), by decide +kernel, by decide⟩
theorem vX5_rest : VI mX5_rest 0 := ⟨tb_5 29 (by with_unfolding_all rfl), tb_5 27 (by decide +kernel), tb_5 28 (by decide +kernel), tb_1 7 (by decide +kernel), by decide +kernel, by decide⟩
theorem vX5_circle : VI mX5_circle 0 := ⟨tb_5 37 (by with_unfolding_all rfl), tb_5 35 (by decide +kernel), tb_5 36 (by decide +kernel), tb_1 7 (by decide +kernel), by decide +kernel, by decide⟩
theorem vX5_live : VI mX5_live 1 := ⟨tb_5 53 (by with_unfolding_all rfl), tb_5 52 (by decide +kernel), tb_s 49 (by decide +kernel), tb_1 7 (by decide +kernel), by decide +kernel, by decide⟩
theorem vX5_liveAnyhow : VI mX5_liveAnyhow 1 := ⟨tb_5 49 (by with_unfolding_all rfl), tb_5 48 (by decide +kernel), tb_s 48 (by decide +kernel), tb_1 7 (by decide +kernel), by decide +kernel, by decide⟩
theorem vX5_refuses : VI mX5_refuses 2 := ⟨tb_5 45 (by with_unfolding_all rfl), tb_5 44 (by decide +kernel), tb_s 47 (by decide +kernel), tb_1 7 (by decide +kernel), by decide +kernel, by decide⟩
theorem vX5_refusesHours : VI mX5_refusesHours 2 := ⟨tb_5 69 (by with_unfolding_all rfl), tb_5 68 (by decide +kernel), tb_s 51 (by decide +kernel), tb_1 7 (by decide +kernel), by decide +kernel, by decide⟩
theorem vX5_spread : VI mX5_spread 2 := ⟨tb_5 41 (by with_unfolding_all rfl), tb_5 39 (by decide +kernel), tb_5 40 (by decide +kernel), tb_1 7 (by decide +kernel), by decide +kernel, by decide⟩
theorem vX5_bestOf : VI mX5_bestOf 4 := ⟨tb_5 61 (by with_unfolding_all rfl), tb_5 60 (by decide +kernel), tb_s 50 (by decide +kernel), tb_1 7 (by decide +kernel), by decide +kernel, by decide⟩
theorem vX5_kindFor : VI mX5_kindFor 2 := ⟨tb_5 57 (by with_unfolding_all rfl), tb_5 55 (by decide +kernel), tb_5 56 (by decide +kernel), tb_1 7 (by decide +kernel), by decide +kernel, by decide⟩
theorem vX5_tempted : VI mX5_tempted 1 := ⟨tb_5 65 (by with_unfolding_all rfl), tb_5 63 (by decide +kernel), tb_5 64 (by decide +kernel), tb_1 7 (by decide +kernel), by decide +kernel, by decide⟩
theorem vX5_missed : VI mX5_missed 1 := ⟨tb_5 73 (by with_unfolding_all rfl), tb_5 71 (by decide +kernel), tb_5 72 (by decide +kernel), tb_1 7 (by decide +kernel), by decide +kernel, by decide⟩
theorem vX5_leastThen : VI mX5_leastThen 0 := ⟨tb_5 89 (by with_unfolding_all rfl), tb_5 88 (by decide +kernel), tb_s 54 (by decide +kernel), tb_1 7 (by decide +kernel), by decide +kernel, by decide⟩
theorem vX5_refusesPairs : VI mX5_refusesPairs 1 := ⟨tb_5 81 (by with_unfolding_all rfl), tb_5 80 (by decide +kernel), tb_s 52 (by decide +kernel), tb_1 7 (by decide +kernel), by decide +kernel, by decide⟩
theorem vX5_findPair : VI mX5_findPair 1 := ⟨tb_5 85 (by with_unfolding_all rfl), tb_5 84 (by decide +kernel), tb_s 53 (by decide +kernel), tb_1 7 (by decide +kernel), by decide +kernel, by decide⟩
theorem vX5_warmest : VI mX5_warmest 1 := ⟨tb_5 77 (by with_unfolding_all rfl), tb_5 75 (by decide +kernel), tb_5 76 (by decide +kernel), tb_1 7 (by decide +kernel), by decide +kernel, by decide⟩
theorem vX5_exchange : VI mX5_exchange 1 := ⟨tb_5 93 (by with_unfolding_all rfl), tb_5 91 (by decide +kernel), tb_5 92 (by decide +kernel), tb_1 7 (by decide +kernel), by decide +kernel, by decide⟩
theorem vX5_deal : VI mX5_deal 1 := ⟨tb_5 97 (by with_unfolding_all rfl), tb_5 95 (by decide +kernel), tb_5 96 (by decide +kernel), tb_1 7 (by decide +kernel), by decide +kernel, by decide⟩
theorem vX5_dealOn : VI mX5_dealOn 4 := ⟨tb_5 105 (by with_unfolding_all rfl), tb_5 104 (by decide +kernel), tb_s 55 (by decide +kernel), tb_1 7 (by decide +kernel), by decide +kernel, by decide⟩
theorem vX5_orders : VI mX5_orders 2 := ⟨tb_5 101 (by with_unfolding_all rfl), tb_5 99 (by decide +kernel), tb_5 100 (by decide +kernel), tb_1 7 (by decide +kernel), by decide +kernel, by decide⟩
theorem vX5_leastFor : VI mX5_leastFor 6 := ⟨tb_5 113 (by with_unfolding_all rfl), tb_5 112 (by decide +kernel), tb_s 56 (by decide +kernel), tb_1 7 (by decide +kernel), by decide +kernel, by decide⟩
theorem vX5_coal : VI mX5_coal 2 := ⟨tb_5 109 (by with_unfolding_all rfl), tb_5 107 (by decide +kernel), tb_5 108 (by decide +kernel), tb_1 7 (by decide +kernel), by decide +kernel, by decide⟩
theorem vX5_wall : VI mX5_wall 2 := ⟨tb_5 117 (by with_unfolding_all rfl), tb_5 115 (by decide +kernel), tb_5 116 (by decide +kernel), tb_1 7 (by decide +kernel), by decide +kernel, by decide⟩
theorem vX5_turn : VI mX5_turn 2 := ⟨tb_5 121 (by with_unfolding_all rfl), tb_5 119 (by decide +kernel), tb_5 120 (by decide +kernel), tb_1 7 (by decide +kernel), by decide +kernel, by decide⟩
theorem vX5_damper : VI mX5_damper 2 := ⟨tb_5 125 (by with_unfolding_all rfl), tb_5 123 (by decide +kernel), tb_5 124 (by decide +kernel), tb_1 7 (by decide +kernel), by decide +kernel, by decide⟩
theorem vX5_own : VI mX5_own 1 := ⟨tb_5 129 (by with_unfolding_all rfl), tb_5 127 (by decide +kernel), tb_5 128 (by decide +kernel), tb_1 7 (by decide +kernel), by decide +kernel, by decide⟩
theorem vX5_fits : VI mX5_fits 1 := ⟨tb_5 141 (by with_unfolding_all rfl), tb_5 140 (by decide +kernel), tb_s 58 (by decide +kernel), tb_1 7 (by decide +kernel), by decide +kernel, by decide⟩
theorem vX5_findCulprits : VI mX5_findCulprits 0 := ⟨tb_5 137 (by with_unfolding_all rfl), tb_5 136 (by decide +kernel), tb_s 57 (by decide +kernel), tb_1 7 (by decide +kernel), by decide +kernel, by decide⟩
theorem vX5_culprits : VI mX5_culprits 0 := ⟨tb_5 133 (by with_unfolding_all rfl), tb_5 131 (by decide +kernel), tb_5 132 (by decide +kernel), tb_1 7 (by decide +kernel), by decide +kernel, by decide⟩
theorem vX5_surely : VI mX5_surely 1 := ⟨tb_5 145 (by with_unfolding_all rfl), tb_5 143 (by decide +kernel), tb_5 144 (by decide +kernel), tb_1 7 (by decide +kernel), by decide +kernel, by decide⟩
theorem vX5_drawn : VI mX5_drawn 1 := ⟨tb_5 153 (by with_unfolding_all rfl), tb_5 152 (by decide +kernel), tb_s 59 (by decide +kernel), tb_1 7 (by decide +kernel), by decide +kernel, by decide⟩
theorem vX5_aways : VI mX5_aways 0 := ⟨tb_5 158 (by with_unfolding_all rfl), tb_5 157 (by decide +kernel), tb_s 60 (by decide +kernel), tb_1 7 (by decide +kernel), by decide +kernel, by decide⟩
theorem vX5_travel : VI mX5_travel 1 := ⟨tb_5 149 (by with_unfolding_all rfl), tb_5 147 (by decide +kernel), tb_5 148 (by decide +kernel), tb_1 7 (by decide +kernel), by decide +kernel, by decide⟩
theorem vX5_seed : VI mX5_seed 1 := ⟨tb_5 162 (by with_unfolding_all rfl), tb_5 160 (by decide +kernel), tb_5 161 (by decide +kernel), tb_1 7 (by decide +kernel), by decide +kernel, by decide⟩
theorem vX5_feed : VI mX5_feed 2 := ⟨tb_5 166 (by with_unfolding_all rfl), tb_5 164 (by decide +kernel), tb_5 165 (by decide +kernel), tb_1 7 (by decide +kernel), by decide +kernel, by decide⟩
theorem vX5_wipe : VI mX5_wipe 0 := ⟨tb_5 170 (by with_unfolding_all rfl), tb_5 168 (by decide +kernel), tb_5 169 (by decide +kernel), tb_1 7 (by decide +kernel), by decide +kernel, by decide⟩
theorem vX5_byteAt : VI mX5_byteAt 1 := ⟨tb_5 182 (by with_unfolding_all rfl), tb_5 181 (by decide +kernel), tb_s 62 (by decide +kernel), tb_1 7 (by decide +kernel), by decide +kernel, by decide⟩
theorem vX5_next : VI mX5_next 0 := ⟨tb_5 178 (by with_unfolding_all rfl), tb_5 177 (by decide +kernel), tb_s 61 (by decide +kernel), tb_1 7 (by decide +kernel), by decide +kernel, by decide⟩
theorem vX5_isWord : VI mX5_isWord 1 := ⟨tb_5 194 (by with_unfolding_all rfl), tb_5 193 (by decide +kernel), tb_s 65 (by decide +kernel), tb_1 7 (by decide +kernel), by decide +kernel, by decide⟩
theorem vX5_must : VI mX5_must 1 := ⟨tb_5 200 (by with_unfolding_all rfl), tb_5 199 (by decide +kernel), tb_s 66 (by decide +kernel), tb_1 7 (by decide +kernel), by decide +kernel, by decide⟩
theorem vX5_number : VI mX5_number 2 := ⟨tb_5 214 (by with_unfolding_all rfl), tb_5 213 (by decide +kernel), tb_s 69 (by decide +kernel), tb_1 7 (by decide +kernel), by decide +kernel, by decide⟩
theorem vX5_row : VI mX5_row 3 := ⟨tb_5 204 (by with_unfolding_all rfl), tb_5 203 (by decide +kernel), tb_s 67 (by decide +kernel), tb_1 7 (by decide +kernel), by decide +kernel, by decide⟩
theorem vX5_kindTold : VI mX5_kindTold 0 := ⟨tb_5 190 (by with_unfolding_all rfl), tb_5 189 (by decide +kernel), tb_s 64 (by decide +kernel), tb_1 7 (by decide +kernel), by decide +kernel, by decide⟩
theorem vX5_isNext : VI mX5_isNext 1 := ⟨tb_5 208 (by with_unfolding_all rfl), tb_5 207 (by decide +kernel), tb_s 68 (by decide +kernel), tb_1 7 (by decide +kernel), by decide +kernel, by decide⟩
theorem vX5_readItem : VI mX5_readItem 0 := ⟨tb_5 186 (by with_unfolding_all rfl), tb_5 185 (by decide +kernel), tb_s 63 (by decide +kernel), tb_1 7 (by decide +kernel), by decide +kernel, by decide⟩
theorem vX5_isSo : VI mX5_isSo 1 := ⟨tb_5 219 (by with_unfolding_all rfl), tb_5 218 (by decide +kernel), tb_s 70 (by decide +kernel), tb_1 7 (by decide +kernel), by decide +kernel, by decide⟩
theorem vX5_text : VI mX5_text 0 := ⟨tb_5 174 (by with_unfolding_all rfl), tb_5 172 (by decide +kernel), tb_5 173 (by decide +kernel), tb_1 7 (by decide +kernel), by decide +kernel, by decide⟩
theorem sX5_isSpot : SI mX5_isSpot 1 := ⟨tb_5 226 (by with_unfolding_all rfl), tb_5 225 (by decide +kernel), tb_1 7 (by decide +kernel), by decide +kernel, by decide⟩
theorem vX5_hold : VI mX5_hold 2 := ⟨tb_5 223 (by with_unfolding_all rfl), tb_5 221 (by decide +kernel), tb_5 222 (by decide +kernel), tb_1 7 (by decide +kernel), by decide +kernel, by decide⟩
theorem vX5_as : VI mX5_as 2 := ⟨tb_5 230 (by with_unfolding_all rfl), tb_5 228 (by decide +kernel), tb_5 229 (by decide +kernel), tb_1 7 (by decide +kernel), by decide +kernel, by decide⟩
theorem sX5_isSheet : SI mX5_isSheet 1 := ⟨tb_6 5 (by with_unfolding_all rfl), tb_6 4 (by decide +kernel), tb_1 7 (by decide +kernel), by decide +kernel, by decide⟩
theorem sX5_cutTo : SI mX5_cutTo 2 := ⟨tb_6 13 (by with_unfolding_all rfl), tb_6 12 (by decide +kernel), tb_1 7 (by decide +kernel), by decide +kernel, by decide⟩
theorem vX5_sheet : VI mX5_sheet 3 := ⟨tb_6 2 (by with_unfolding_all rfl), tb_6 0 (by decide +kernel), tb_6 1 (by decide +kernel), tb_1 7 (by decide +kernel), by decide +kernel, by decide⟩
theorem vX5_write : VI mX5_write 3 := ⟨tb_6 10 (by with_unfolding_all rfl), tb_6 8 (by decide +kernel), tb_6 9 (by decide +kernel), tb_1 7 (by decide +kernel), by decide +kernel, by decide⟩
theorem vX5_copy : VI mX5_copy 5 := ⟨tb_6 17 (by with_unfolding_all rfl), tb_6 15 (by decide +kernel), tb_6 16 (by decide +kernel), tb_1 7 (by decide +kernel), by decide +kernel, by decide⟩
theorem vX5_load : VI mX5_load 1 := ⟨tb_6 21 (by with_unfolding_all rfl), tb_6 19 (by decide +kernel), tb_6 20 (by decide +kernel), tb_1 7 (by decide +kernel), by decide +kernel, by decide⟩
theorem vX5_judge : VI mX5_judge 2 := ⟨tb_6 25 (by with_unfolding_all rfl), tb_6 23 (by decide +kernel), tb_6 24 (by decide +kernel), tb_1 7 (by decide +kernel), by decide +kernel, by decide⟩
theorem vX5_image : VI mX5_image 0 := ⟨tb_6 29 (by with_unfolding_all rfl), tb_6 27 (by decide +kernel), tb_6 28 (by decide +kernel), tb_1 7 (by decide +kernel), by decide +kernel, by decide⟩
theorem vX5_undo : VI mX5_undo 0 := ⟨tb_6 33 (by with_unfolding_all rfl), tb_6 31 (by decide +kernel), tb_6 32 (by decide +kernel), tb_1 7 (by decide +kernel), by decide +kernel, by decide⟩
theorem vX5_tear : VI mX5_tear 0 := ⟨tb_6 37 (by with_unfolding_all rfl), tb_6 35 (by decide +kernel), tb_6 36 (by decide +kernel), tb_1 7 (by decide +kernel), by decide +kernel, by decide⟩
theorem vX5_count : VI mX5_count 1 := ⟨tb_6 41 (by with_unfolding_all rfl), tb_6 39 (by decide +kernel), tb_6 40 (by decide +kernel), tb_1 7 (by decide +kernel), by decide +kernel, by decide⟩
theorem vX5_status : VI mX5_status 1 := ⟨tb_6 45 (by with_unfolding_all rfl), tb_6 43 (by decide +kernel), tb_6 44 (by decide +kernel), tb_1 7 (by decide +kernel), by decide +kernel, by decide⟩
theorem sJ9_max_7cf53 : SI mJ9_max_7cf53 2 := ⟨tb_2 47 (by with_unfolding_all rfl), tb_2 46 (by decide +kernel), tb_1 8 (by decide +kernel), by decide +kernel, by decide⟩
theorem sJ9_min_7cf53 : SI mJ9_min_7cf53 2 := ⟨tb_1 210 (by with_unfolding_all rfl), tb_1 209 (by decide +kernel), tb_1 8 (by decide +kernel), by decide +kernel, by decide⟩
theorem fX0_55 : FA RX0 55 0 0 := ⟨RX0, TX0, 14, tyX0, rfl, inX0, by decide, tb_1 31 (by decide +kernel), tyX0_ok, nmX0⟩
theorem fX4_57 : FA RX4 57 0 0 := ⟨RX0, TX0, 14, tyX0, rfl, inX0, by decide, tb_1 32 (by decide +kernel), tyX0_ok, nmX0⟩
theorem fX3_68 : FA RX3 68 0 0 := ⟨RX0, TX0, 14, tyX0, rfl, inX0, by decide, tb_1 33 (by decide +kernel), tyX0_ok, nmX0⟩
theorem fX0_9 : FA RX0 9 0 1 := ⟨RX0, TX0, 14, tyX0, rfl, inX0, by decide, tb_1 34 (by decide +kernel), tyX0_ok, nmX0⟩
theorem fX4_79 : FA RX4 79 0 1 := ⟨RX0, TX0, 14, tyX0, rfl, inX0, by decide, tb_1 35 (by decide +kernel), tyX0_ok, nmX0⟩
theorem fX3_102 : FA RX3 102 0 1 := ⟨RX0, TX0, 14, tyX0, rfl, inX0, by decide, tb_1 36 (by decide +kernel), tyX0_ok, nmX0⟩
theorem fX0_68 : FA RX0 68 0 2 := ⟨RX0, TX0, 14, tyX0, rfl, inX0, by decide, tb_1 37 (by decide +kernel), tyX0_ok, nmX0⟩
theorem fX4_99 : FA RX4 99 0 2 := ⟨RX0, TX0, 14, tyX0, rfl, inX0, by decide, tb_1 38 (by decide +kernel), tyX0_ok, nmX0⟩
theorem fX0_15 : FA RX0 15 0 3 := ⟨RX0, TX0, 14, tyX0, rfl, inX0, by decide, tb_1 39 (by decide +kernel), tyX0_ok, nmX0⟩
theorem fX4_210 : FA RX4 210 0 3 := ⟨RX0, TX0, 14, tyX0, rfl, inX0, by decide, tb_1 40 (by decide +kernel), tyX0_ok, nmX0⟩
theorem fX0_18 : FA RX0 18 0 4 := ⟨RX0, TX0, 14, tyX0, rfl, inX0, by decide, tb_1 41 (by decide +kernel), tyX0_ok, nmX0⟩
theorem fX4_192 : FA RX4 192 0 4 := ⟨RX0, TX0, 14, tyX0, rfl, inX0, by decide, tb_1 42 (by decide +kernel), tyX0_ok, nmX0⟩
theorem fX0_22 : FA RX0 22 0 5 := ⟨RX0, TX0, 14, tyX0, rfl, inX0, by decide, tb_1 43 (by decide +kernel), tyX0_ok, nmX0⟩
theorem fX4_113 : FA RX4 113 0 5 := ⟨RX0, TX0, 14, tyX0, rfl, inX0, by decide, tb_1 44 (by decide +kernel), tyX0_ok, nmX0⟩
theorem fX0_25 : FA RX0 25 0 6 := ⟨RX0, TX0, 14, tyX0, rfl, inX0, by decide, tb_1 45 (by decide +kernel), tyX0_ok, nmX0⟩
theorem fX4_106 : FA RX4 106 0 6 := ⟨RX0, TX0, 14, tyX0, rfl, inX0, by decide, tb_1 46 (by decide +kernel), tyX0_ok, nmX0⟩
theorem fX0_28 : FA RX0 28 0 7 := ⟨RX0, TX0, 14, tyX0, rfl, inX0, by decide, tb_1 47 (by decide +kernel), tyX0_ok, nmX0⟩
theorem fX0_31 : FA RX0 31 0 8 := ⟨RX0, TX0, 14, tyX0, rfl, inX0, by decide, tb_1 48 (by decide +kernel), tyX0_ok, nmX0⟩
theorem fX4_195 : FA RX4 195 0 8 := ⟨RX0, TX0, 14, tyX0, rfl, inX0, by decide, tb_1 49 (by decide +kernel), tyX0_ok, nmX0⟩
theorem fX0_34 : FA RX0 34 0 9 := ⟨RX0, TX0, 14, tyX0, rfl, inX0, by decide, tb_1 50 (by decide +kernel), tyX0_ok, nmX0⟩
theorem fX3_88 : FA RX3 88 0 9 := ⟨RX0, TX0, 14, tyX0, rfl, inX0, by decide, tb_1 51 (by decide +kernel), tyX0_ok, nmX0⟩
theorem fX4_204 : FA RX4 204 0 9 := ⟨RX0, TX0, 14, tyX0, rfl, inX0, by decide, tb_1 52 (by decide +kernel), tyX0_ok, nmX0⟩
theorem fX0_37 : FA RX0 37 0 10 := ⟨RX0, TX0, 14, tyX0, rfl, inX0, by decide, tb_1 53 (by decide +kernel), tyX0_ok, nmX0⟩
theorem fX0_40 : FA RX0 40 0 11 := ⟨RX0, TX0, 14, tyX0, rfl, inX0, by decide, tb_1 54 (by decide +kernel), tyX0_ok, nmX0⟩
theorem fX0_43 : FA RX0 43 0 12 := ⟨RX0, TX0, 14, tyX0, rfl, inX0, by decide, tb_1 55 (by decide +kernel), tyX0_ok, nmX0⟩
theorem fX0_46 : FA RX0 46 0 13 := ⟨RX0, TX0, 14, tyX0, rfl, inX0, by decide, tb_1 56 (by decide +kernel), tyX0_ok, nmX0⟩
theorem fX4_227 : FA RX4 227 0 13 := ⟨RX0, TX0, 14, tyX0, rfl, inX0, by decide, tb_1 57 (by decide +kernel), tyX0_ok, nmX0⟩
theorem fX2_9 : FA RX2 9 2 0 := ⟨RX2, TX2, 2, tyX2, rfl, inX2, by decide, tb_1 100 (by decide +kernel), tyX2_ok, nmX2⟩
theorem fX2_15 : FA RX2 15 2 1 := ⟨RX2, TX2, 2, tyX2, rfl, inX2, by decide, tb_1 101 (by decide +kernel), tyX2_ok, nmX2⟩
theorem fX3_141 : FA RX3 141 2 1 := ⟨RX2, TX2, 2, tyX2, rfl, inX2, by decide, tb_1 102 (by decide +kernel), tyX2_ok, nmX2⟩
theorem fX4_213 : FA RX4 213 2 1 := ⟨RX2, TX2, 2, tyX2, rfl, inX2, by decide, tb_1 103 (by decide +kernel), tyX2_ok, nmX2⟩
theorem fX3_12 : FA RX3 12 3 0 := ⟨RX3, TX3, 6, tyX3, rfl, inX3, by decide, tb_1 111 (by decide +kernel), tyX3_ok, nmX3⟩
theorem fX4_32 : FA RX4 32 3 0 := ⟨RX3, TX3, 6, tyX3, rfl, inX3, by decide, tb_1 112 (by decide +kernel), tyX3_ok, nmX3⟩
theorem fX3_21 : FA RX3 21 3 1 := ⟨RX3, TX3, 6, tyX3, rfl, inX3, by decide, tb_1 113 (by decide +kernel), tyX3_ok, nmX3⟩
theorem fX3_40 : FA RX3 40 3 2 := ⟨RX3, TX3, 6, tyX3, rfl, inX3, by decide, tb_1 114 (by decide +kernel), tyX3_ok, nmX3⟩
theorem fX3_43 : FA RX3 43 3 3 := ⟨RX3, TX3, 6, tyX3, rfl, inX3, by decide, tb_1 115 (by decide +kernel), tyX3_ok, nmX3⟩
theorem fX3_29 : FA RX3 29 3 4 := ⟨RX3, TX3, 6, tyX3, rfl, inX3, by decide, tb_1 116 (by decide +kernel), tyX3_ok, nmX3⟩
theorem fX3_95 : FA RX3 95 3 5 := ⟨RX3, TX3, 6, tyX3, rfl, inX3, by decide, tb_1 117 (by decide +kernel), tyX3_ok, nmX3⟩
theorem fX1_15 : FA RX1 15 1 0 := ⟨RX1, TX1, 3, tyX1, rfl, inX1, by decide, tb_1 138 (by decide +kernel), tyX1_ok, nmX1⟩
theorem fX4_251 : FA RX4 251 1 0 := ⟨RX1, TX1, 3, tyX1, rfl, inX1, by decide, tb_1 139 (by decide +kernel), tyX1_ok, nmX1⟩
theorem fX1_19 : FA RX1 19 1 1 := ⟨RX1, TX1, 3, tyX1, rfl, inX1, by decide, tb_1 140 (by decide +kernel), tyX1_ok, nmX1⟩
theorem fX4_263 : FA RX4 263 1 1 := ⟨RX1, TX1, 3, tyX1, rfl, inX1, by decide, tb_1 141 (by decide +kernel), tyX1_ok, nmX1⟩
theorem fX1_9 : FA RX1 9 1 2 := ⟨RX1, TX1, 3, tyX1, rfl, inX1, by decide, tb_1 142 (by decide +kernel), tyX1_ok, nmX1⟩
theorem fX4_254 : FA RX4 254 1 2 := ⟨RX1, TX1, 3, tyX1, rfl, inX1, by decide, tb_1 143 (by decide +kernel), tyX1_ok, nmX1⟩
theorem fX4_12 : FA RX4 12 4 0 := ⟨RX4, TX4, 9, tyX4, rfl, inX4, by decide, tb_1 151 (by decide +kernel), tyX4_ok, nmX4⟩
theorem fX4_16 : FA RX4 16 4 1 := ⟨RX4, TX4, 9, tyX4, rfl, inX4, by decide, tb_1 152 (by decide +kernel), tyX4_ok, nmX4⟩
theorem fX4_19 : FA RX4 19 4 2 := ⟨RX4, TX4, 9, tyX4, rfl, inX4, by decide, tb_1 153 (by decide +kernel), tyX4_ok, nmX4⟩
theorem fX4_22 : FA RX4 22 4 3 := ⟨RX4, TX4, 9, tyX4, rfl, inX4, by decide, tb_1 154 (by decide +kernel), tyX4_ok, nmX4⟩
theorem fX4_264 : FA RX4 264 4 4 := ⟨RX4, TX4, 9, tyX4, rfl, inX4, by decide, tb_1 155 (by decide +kernel), tyX4_ok, nmX4⟩
theorem fX4_28 : FA RX4 28 4 5 := ⟨RX4, TX4, 9, tyX4, rfl, inX4, by decide, tb_1 156 (by decide +kernel), tyX4_ok, nmX4⟩
theorem fX4_36 : FA RX4 36 4 6 := ⟨RX4, TX4, 9, tyX4, rfl, inX4, by decide, tb_1 157 (by decide +kernel), tyX4_ok, nmX4⟩
theorem fX4_39 : FA RX4 39 4 7 := ⟨RX4, TX4, 9, tyX4, rfl, inX4, by decide, tb_1 158 (by decide +kernel), tyX4_ok, nmX4⟩
theorem fX4_43 : FA RX4 43 4 8 := ⟨RX4, TX4, 9, tyX4, rfl, inX4, by decide, tb_1 159 (by decide +kernel), tyX4_ok, nmX4⟩
theorem fX5_9 : FA RX5 9 5 0 := ⟨RX5, TX5, 35, tyX5, rfl, inX5, by decide, tb_4 11 (by decide +kernel), tyX5_ok, nmX5⟩
theorem fX5_13 : FA RX5 13 5 1 := ⟨RX5, TX5, 35, tyX5, rfl, inX5, by decide, tb_4 12 (by decide +kernel), tyX5_ok, nmX5⟩
theorem fX5_16 : FA RX5 16 5 2 := ⟨RX5, TX5, 35, tyX5, rfl, inX5, by decide, tb_4 13 (by decide +kernel), tyX5_ok, nmX5⟩
theorem fX5_348 : FA RX5 348 5 3 := ⟨RX5, TX5, 35, tyX5, rfl, inX5, by decide, tb_4 14 (by decide +kernel), tyX5_ok, nmX5⟩
theorem fX5_19 : FA RX5 19 5 4 := ⟨RX5, TX5, 35, tyX5, rfl, inX5, by decide, tb_4 15 (by decide +kernel), tyX5_ok, nmX5⟩
theorem fX5_22 : FA RX5 22 5 5 := ⟨RX5, TX5, 35, tyX5, rfl, inX5, by decide, tb_4 16 (by decide +kernel), tyX5_ok, nmX5⟩
theorem fX5_25 : FA RX5 25 5 6 := ⟨RX5, TX5, 35, tyX5, rfl, inX5, by decide, tb_4 17 (by decide +kernel), tyX5_ok, nmX5⟩
theorem fX5_28 : FA RX5 28 5 7 := ⟨RX5, TX5, 35, tyX5, rfl, inX5, by decide, tb_4 18 (by decide +kernel), tyX5_ok, nmX5⟩
theorem fX5_31 : FA RX5 31 5 8 := ⟨RX5, TX5, 35, tyX5, rfl, inX5, by decide, tb_4 19 (by decide +kernel), tyX5_ok, nmX5⟩
theorem fX5_34 : FA RX5 34 5 9 := ⟨RX5, TX5, 35, tyX5, rfl, inX5, by decide, tb_4 20 (by decide +kernel), tyX5_ok, nmX5⟩
theorem fX5_37 : FA RX5 37 5 10 := ⟨RX5, TX5, 35, tyX5, rfl, inX5, by decide, tb_4 21 (by decide +kernel), tyX5_ok, nmX5⟩
theorem fX5_211 : FA RX5 211 5 11 := ⟨RX5, TX5, 35, tyX5, rfl, inX5, by decide, tb_4 22 (by decide +kernel), tyX5_ok, nmX5⟩
theorem fX5_218 : FA RX5 218 5 12 := ⟨RX5, TX5, 35, tyX5, rfl, inX5, by decide, tb_4 23 (by decide +kernel), tyX5_ok, nmX5⟩
theorem fX5_227 : FA RX5 227 5 13 := ⟨RX5, TX5, 35, tyX5, rfl, inX5, by decide, tb_4 24 (by decide +kernel), tyX5_ok, nmX5⟩
theorem fX5_40 : FA RX5 40 5 14 := ⟨RX5, TX5, 35, tyX5, rfl, inX5, by decide, tb_4 25 (by decide +kernel), tyX5_ok, nmX5⟩
theorem fX5_238 : FA RX5 238 5 15 := ⟨RX5, TX5, 35, tyX5, rfl, inX5, by decide, tb_4 26 (by decide +kernel), tyX5_ok, nmX5⟩
theorem fX5_241 : FA RX5 241 5 16 := ⟨RX5, TX5, 35, tyX5, rfl, inX5, by decide, tb_4 27 (by decide +kernel), tyX5_ok, nmX5⟩
theorem fX5_244 : FA RX5 244 5 17 := ⟨RX5, TX5, 35, tyX5, rfl, inX5, by decide, tb_4 28 (by decide +kernel), tyX5_ok, nmX5⟩
theorem fX5_43 : FA RX5 43 5 18 := ⟨RX5, TX5, 35, tyX5, rfl, inX5, by decide, tb_4 29 (by decide +kernel), tyX5_ok, nmX5⟩
theorem fX5_260 : FA RX5 260 5 19 := ⟨RX5, TX5, 35, tyX5, rfl, inX5, by decide, tb_4 30 (by decide +kernel), tyX5_ok, nmX5⟩
theorem fX5_266 : FA RX5 266 5 20 := ⟨RX5, TX5, 35, tyX5, rfl, inX5, by decide, tb_4 31 (by decide +kernel), tyX5_ok, nmX5⟩
theorem fX5_263 : FA RX5 263 5 21 := ⟨RX5, TX5, 35, tyX5, rfl, inX5, by decide, tb_4 32 (by decide +kernel), tyX5_ok, nmX5⟩
theorem fX5_275 : FA RX5 275 5 22 := ⟨RX5, TX5, 35, tyX5, rfl, inX5, by decide, tb_4 33 (by decide +kernel), tyX5_ok, nmX5⟩
theorem fX5_272 : FA RX5 272 5 23 := ⟨RX5, TX5, 35, tyX5, rfl, inX5, by decide, tb_4 34 (by decide +kernel), tyX5_ok, nmX5⟩
theorem fX5_285 : FA RX5 285 5 24 := ⟨RX5, TX5, 35, tyX5, rfl, inX5, by decide, tb_4 35 (by decide +kernel), tyX5_ok, nmX5⟩
theorem fX5_62 : FA RX5 62 5 25 := ⟨RX5, TX5, 35, tyX5, rfl, inX5, by decide, tb_4 36 (by decide +kernel), tyX5_ok, nmX5⟩
theorem fX5_74 : FA RX5 74 5 26 := ⟨RX5, TX5, 35, tyX5, rfl, inX5, by decide, tb_4 37 (by decide +kernel), tyX5_ok, nmX5⟩
theorem fX5_77 : FA RX5 77 5 27 := ⟨RX5, TX5, 35, tyX5, rfl, inX5, by decide, tb_4 38 (by decide +kernel), tyX5_ok, nmX5⟩
theorem fX5_296 : FA RX5 296 5 28 := ⟨RX5, TX5, 35, tyX5, rfl, inX5, by decide, tb_4 39 (by decide +kernel), tyX5_ok, nmX5⟩
theorem fX5_306 : FA RX5 306 5 29 := ⟨RX5, TX5, 35, tyX5, rfl, inX5, by decide, tb_4 40 (by decide +kernel), tyX5_ok, nmX5⟩
theorem fX5_309 : FA RX5 309 5 30 := ⟨RX5, TX5, 35, tyX5, rfl, inX5, by decide, tb_4 41 (by decide +kernel), tyX5_ok, nmX5⟩
theorem fX5_80 : FA RX5 80 5 31 := ⟨RX5, TX5, 35, tyX5, rfl, inX5, by decide, tb_4 42 (by decide +kernel), tyX5_ok, nmX5⟩
theorem fX5_83 : FA RX5 83 5 32 := ⟨RX5, TX5, 35, tyX5, rfl, inX5, by decide, tb_4 43 (by decide +kernel), tyX5_ok, nmX5⟩
theorem fX5_86 : FA RX5 86 5 33 := ⟨RX5, TX5, 35, tyX5, rfl, inX5, by decide, tb_4 44 (by decide +kernel), tyX5_ok, nmX5⟩
theorem fX5_89 : FA RX5 89 5 34 := ⟨RX5, TX5, 35, tyX5, rfl, inX5, by decide, tb_4 45 (by decide +kernel), tyX5_ok, nmX5⟩
theorem w0_0 : FW 0 0 .int := ⟨RX0, TX0, 14, rfl, by decide, by decide +kernel⟩
theorem w0_1 : FW 0 1 .int := ⟨RX0, TX0, 14, rfl, by decide, by decide +kernel⟩
theorem w0_2 : FW 0 2 .int := ⟨RX0, TX0, 14, rfl, by decide, by decide +kernel⟩
theorem w0_3 : FW 0 3 .int := ⟨RX0, TX0, 14, rfl, by decide, by decide +kernel⟩
theorem w1_0 : FW 1 0 .int := ⟨RX1, TX1, 3, rfl, by decide, by decide +kernel⟩
theorem w1_1 : FW 1 1 .int := ⟨RX1, TX1, 3, rfl, by decide, by decide +kernel⟩
theorem w2_1 : FW 2 1 .int := ⟨RX2, TX2, 2, rfl, by decide, by decide +kernel⟩
theorem w3_2 : FW 3 2 .int := ⟨RX3, TX3, 6, rfl, by decide, by decide +kernel⟩
theorem w3_3 : FW 3 3 .int := ⟨RX3, TX3, 6, rfl, by decide, by decide +kernel⟩
theorem w3_4 : FW 3 4 .int := ⟨RX3, TX3, 6, rfl, by decide, by decide +kernel⟩
theorem w3_5 : FW 3 5 .int := ⟨RX3, TX3, 6, rfl, by decide, by decide +kernel⟩
theorem w4_4 : FW 4 4 .boolean := ⟨RX4, TX4, 9, rfl, by decide, by decide +kernel⟩
theorem w5_3 : FW 5 3 .boolean := ⟨RX5, TX5, 35, rfl, by decide, by decide +kernel⟩
theorem w5_11 : FW 5 11 .int := ⟨RX5, TX5, 35, rfl, by decide, by decide +kernel⟩
theorem w5_12 : FW 5 12 .int := ⟨RX5, TX5, 35, rfl, by decide, by decide +kernel⟩
theorem w5_13 : FW 5 13 .int := ⟨RX5, TX5, 35, rfl, by decide, by decide +kernel⟩
theorem w5_15 : FW 5 15 .int := ⟨RX5, TX5, 35, rfl, by decide, by decide +kernel⟩
theorem w5_16 : FW 5 16 .int := ⟨RX5, TX5, 35, rfl, by decide, by decide +kernel⟩
theorem w5_17 : FW 5 17 .int := ⟨RX5, TX5, 35, rfl, by decide, by decide +kernel⟩
theorem w5_19 : FW 5 19 .int := ⟨RX5, TX5, 35, rfl, by decide, by decide +kernel⟩
theorem w5_20 : FW 5 20 .int := ⟨RX5, TX5, 35, rfl, by decide, by decide +kernel⟩
theorem w5_21 : FW 5 21 .int := ⟨RX5, TX5, 35, rfl, by decide, by decide +kernel⟩
theorem w5_22 : FW 5 22 .int := ⟨RX5, TX5, 35, rfl, by decide, by decide +kernel⟩
theorem w5_23 : FW 5 23 .int := ⟨RX5, TX5, 35, rfl, by decide, by decide +kernel⟩
theorem w5_24 : FW 5 24 .boolean := ⟨RX5, TX5, 35, rfl, by decide, by decide +kernel⟩
theorem w5_28 : FW 5 28 .int := ⟨RX5, TX5, 35, rfl, by decide, by decide +kernel⟩
theorem w5_29 : FW 5 29 .int := ⟨RX5, TX5, 35, rfl, by decide, by decide +kernel⟩
theorem w5_30 : FW 5 30 .int := ⟨RX5, TX5, 35, rfl, by decide, by decide +kernel⟩
theorem lX4_11 : Cond.methodLink RX4 11 yX0_init ∈ gtbl := tb_1 24 (by decide +kernel)
theorem lX0_49 : Cond.methodLink RX0 49 yJ7_fill_53178 ∈ gtbl := tb_1 28 (by decide +kernel)
theorem lX3_20 : Cond.methodLink RX3 20 yX0_init ∈ gtbl := tb_1 110 (by decide +kernel)
theorem lX4_48 : Cond.methodLink RX4 48 yX4_isKind ∈ gtbl := tb_1 183 (by decide +kernel)
theorem lX4_53 : Cond.methodLink RX4 53 yX4_tell ∈ gtbl := tb_1 187 (by decide +kernel)
theorem lX4_62 : Cond.methodLink RX4 62 yX0_addRoom ∈ gtbl := tb_1 192 (by decide +kernel)
theorem lX4_65 : Cond.methodLink RX4 65 yX0_has ∈ gtbl := tb_1 200 (by decide +kernel)
theorem lX4_68 : Cond.methodLink RX4 68 yX0_wants ∈ gtbl := tb_1 204 (by decide +kernel)
theorem lX0_77 : Cond.methodLink RX0 77 yJ9_min_7cf53 ∈ gtbl := tb_1 208 (by decide +kernel)
theorem lX4_71 : Cond.methodLink RX4 71 yX0_rowOf ∈ gtbl := tb_1 211 (by decide +kernel)
theorem lX4_75 : Cond.methodLink RX4 75 yX0_fits ∈ gtbl := tb_1 219 (by decide +kernel)
theorem lX0_58 : Cond.methodLink RX0 58 yX0_has ∈ gtbl := tb_1 223 (by decide +kernel)
theorem lX4_82 : Cond.methodLink RX4 82 yX0_heatersOf ∈ gtbl := tb_1 236 (by decide +kernel)
theorem lX4_85 : Cond.methodLink RX4 85 yX0_reachedFrom ∈ gtbl := tb_2 4 (by decide +kernel)
theorem lX4_88 : Cond.methodLink RX4 88 yX0_changePlaces ∈ gtbl := tb_2 12 (by decide +kernel)
theorem lX0_103 : Cond.methodLink RX0 103 yX0_swap ∈ gtbl := tb_2 16 (by decide +kernel)
theorem lX4_92 : Cond.methodLink RX4 92 yX4_findingOfHours ∈ gtbl := tb_2 23 (by decide +kernel)
theorem lX4_96 : Cond.methodLink RX4 96 yX0_passHours ∈ gtbl := tb_2 28 (by decide +kernel)
theorem lX0_87 : Cond.methodLink RX0 87 yX0_passHour ∈ gtbl := tb_2 32 (by decide +kernel)
theorem lX0_91 : Cond.methodLink RX0 91 yX0_stokes ∈ gtbl := tb_2 36 (by decide +kernel)
theorem lX0_83 : Cond.methodLink RX0 83 yX0_wants ∈ gtbl := tb_2 40 (by decide +kernel)
theorem lX0_94 : Cond.methodLink RX0 94 yX0_heat ∈ gtbl := tb_2 41 (by decide +kernel)
theorem lX0_100 : Cond.methodLink RX0 100 yJ9_max_7cf53 ∈ gtbl := tb_2 45 (by decide +kernel)
theorem lX0_97 : Cond.methodLink RX0 97 yX0_lostBy ∈ gtbl := tb_2 48 (by decide +kernel)
theorem lX4_102 : Cond.methodLink RX4 102 yX0_coldRooms ∈ gtbl := tb_2 56 (by decide +kernel)
theorem lX4_109 : Cond.methodLink RX4 109 yX0_sumOf ∈ gtbl := tb_2 60 (by decide +kernel)
theorem lX4_116 : Cond.methodLink RX4 116 yX0_coldestRoom ∈ gtbl := tb_2 64 (by decide +kernel)
theorem lX4_120 : Cond.methodLink RX4 120 yX4_startTrial ∈ gtbl := tb_2 72 (by decide +kernel)
theorem lX4_145 : Cond.methodLink RX4 145 yX0_becomes ∈ gtbl := tb_2 76 (by decide +kernel)
theorem lX4_123 : Cond.methodLink RX4 123 yX0_leastWarmth ∈ gtbl := tb_2 83 (by decide +kernel)
theorem lX0_113 : Cond.methodLink RX0 113 yX0_coldestRoom ∈ gtbl := tb_2 87 (by decide +kernel)
theorem lX4_126 : Cond.methodLink RX4 126 yX4_firstBelow ∈ gtbl := tb_2 92 (by decide +kernel)
theorem lX4_130 : Cond.methodLink RX4 130 yX4_isLate ∈ gtbl := tb_2 96 (by decide +kernel)
theorem lX4_134 : Cond.methodLink RX4 134 yX0_passHour ∈ gtbl := tb_2 100 (by decide +kernel)
theorem lX4_138 : Cond.methodLink RX4 138 yX0_nextIsRest ∈ gtbl := tb_2 110 (by decide +kernel)
theorem lX4_141 : Cond.methodLink RX4 141 yX4_goAsItGoes ∈ gtbl := tb_2 118 (by decide +kernel)
theorem lX4_149 : Cond.methodLink RX4 149 yX0_stokesLike ∈ gtbl := tb_2 122 (by decide +kernel)
theorem lX4_153 : Cond.methodLink RX4 153 yX4_findingOfRoomAhead ∈ gtbl := tb_2 130 (by decide +kernel)
theorem lX4_156 : Cond.methodLink RX4 156 yX4_goWith ∈ gtbl := tb_2 134 (by decide +kernel)
theorem lX4_160 : Cond.methodLink RX4 160 yX0_warmerThan ∈ gtbl := tb_2 138 (by decide +kernel)
theorem lX4_164 : Cond.methodLink RX4 164 yX4_bestForItself ∈ gtbl := tb_2 146 (by decide +kernel)
theorem lX4_173 : Cond.methodLink RX4 173 yX4_takenByAbsence ∈ gtbl := tb_2 160 (by decide +kernel)
theorem lX4_176 : Cond.methodLink RX4 176 yX4_findingOfPairs ∈ gtbl := tb_2 168 (by decide +kernel)
theorem lX4_179 : Cond.methodLink RX4 179 yX4_bestPair ∈ gtbl := tb_2 172 (by decide +kernel)
theorem lX4_182 : Cond.methodLink RX4 182 yX4_goWithMove ∈ gtbl := tb_2 176 (by decide +kernel)
theorem lX4_186 : Cond.methodLink RX4 186 yX4_dealKinds ∈ gtbl := tb_2 192 (by decide +kernel)
theorem lX4_189 : Cond.methodLink RX4 189 yX4_memberOf ∈ gtbl := tb_2 196 (by decide +kernel)
theorem lX4_198 : Cond.methodLink RX4 198 yX0_gotAsIfColdBy ∈ gtbl := tb_2 223 (by decide +kernel)
theorem lX0_117 : Cond.methodLink RX0 117 yX0_gotIfColdBy ∈ gtbl := tb_2 227 (by decide +kernel)
theorem lX4_201 : Cond.methodLink RX4 201 yX0_draw ∈ gtbl := tb_2 239 (by decide +kernel)
theorem lX4_207 : Cond.methodLink RX4 207 yX0_awayRooms ∈ gtbl := tb_3 4 (by decide +kernel)
theorem lX4_218 : Cond.methodLink RX4 218 yX2_append ∈ gtbl := tb_3 16 (by decide +kernel)
theorem lX4_221 : Cond.methodLink RX4 221 yX3_read ∈ gtbl := tb_3 28 (by decide +kernel)
theorem lX3_25 : Cond.methodLink RX3 25 yX0_becomes ∈ gtbl := tb_3 32 (by decide +kernel)
theorem lX3_33 : Cond.methodLink RX3 33 yX3_step ∈ gtbl := tb_3 33 (by decide +kernel)
theorem lX3_134 : Cond.methodLink RX3 134 yX2_byteAt ∈ gtbl := tb_3 37 (by decide +kernel)
theorem lX3_143 : Cond.methodLink RX3 143 yX3_tokenBegunBy ∈ gtbl := tb_3 41 (by decide +kernel)
theorem lX3_146 : Cond.methodLink RX3 146 yJ9_min_7cf53 ∈ gtbl := tb_3 44 (by decide +kernel)
theorem lX3_36 : Cond.methodLink RX3 36 yX3_readItem ∈ gtbl := tb_3 45 (by decide +kernel)
theorem lX3_46 : Cond.methodLink RX3 46 yX3_kindTold ∈ gtbl := tb_3 49 (by decide +kernel)
theorem lX3_104 : Cond.methodLink RX3 104 yX3_wordOfKind ∈ gtbl := tb_3 53 (by decide +kernel)
theorem lX3_56 : Cond.methodLink RX3 56 yX3_isWord ∈ gtbl := tb_3 63 (by decide +kernel)
theorem lX3_129 : Cond.methodLink RX3 129 yJ0_length_8abf5 ∈ gtbl := tb_3 67 (by decide +kernel)
theorem lJ0_335 : Cond.methodLink RJ0 335 yJ0_coder_7d493 ∈ gtbl := tb_3 71 (by decide +kernel)
theorem lX3_137 : Cond.methodLink RX3 137 yJ0_charAt_5068e ∈ gtbl := tb_3 77 (by decide +kernel)
theorem lJ0_492 : Cond.methodLink RJ0 492 yJ0_isLatin1_aae02 ∈ gtbl := tb_3 81 (by decide +kernel)
theorem lJ0_495 : Cond.methodLink RJ0 495 yJ1_charAt_3b067 ∈ gtbl := tb_3 85 (by decide +kernel)
theorem lJ1_9 : Cond.methodLink RJ1 9 yJ0_checkIndex_df160 ∈ gtbl := tb_3 88 (by decide +kernel)
theorem lJ0_1059 : Cond.methodLink RJ0 1059 yJ3_checkIndex_8e157 ∈ gtbl := tb_3 93 (by decide +kernel)
theorem lJ0_498 : Cond.methodLink RJ0 498 yJ2_charAt_3b067 ∈ gtbl := tb_3 96 (by decide +kernel)
theorem lJ2_67 : Cond.methodLink RJ2 67 yJ2_checkIndex_2214a ∈ gtbl := tb_3 99 (by decide +kernel)
theorem lJ2_48 : Cond.methodLink RJ2 48 yJ2_length_9d52b ∈ gtbl := tb_3 102 (by decide +kernel)
theorem lJ2_414 : Cond.methodLink RJ2 414 yJ0_checkIndex_df160 ∈ gtbl := tb_3 105 (by decide +kernel)
theorem lJ2_71 : Cond.methodLink RJ2 71 yJ2_getChar_3b067 ∈ gtbl := tb_3 106 (by decide +kernel)
theorem lX3_50 : Cond.methodLink RX3 50 yX3_readRoom ∈ gtbl := tb_3 115 (by decide +kernel)
theorem lX3_71 : Cond.methodLink RX3 71 yX0_addRoom ∈ gtbl := tb_3 119 (by decide +kernel)
theorem lX3_75 : Cond.methodLink RX3 75 yX3_wordOfPart ∈ gtbl := tb_3 120 (by decide +kernel)
theorem lX3_79 : Cond.methodLink RX3 79 yX3_readValue ∈ gtbl := tb_3 127 (by decide +kernel)
theorem lX3_91 : Cond.methodLink RX3 91 yX0_rowOf ∈ gtbl := tb_3 131 (by decide +kernel)
theorem lX3_98 : Cond.methodLink RX3 98 yX0_fits ∈ gtbl := tb_3 132 (by decide +kernel)
theorem lX3_85 : Cond.methodLink RX3 85 yX0_has ∈ gtbl := tb_3 134 (by decide +kernel)
theorem lX3_60 : Cond.methodLink RX3 60 yX3_readOut ∈ gtbl := tb_3 136 (by decide +kernel)
theorem lX3_65 : Cond.methodLink RX3 65 yX3_readDamper ∈ gtbl := tb_3 141 (by decide +kernel)
theorem lX4_224 : Cond.methodLink RX4 224 yX4_isSpot ∈ gtbl := tb_3 150 (by decide +kernel)
theorem lX4_231 : Cond.methodLink RX4 231 yX0_isOneOf ∈ gtbl := tb_3 158 (by decide +kernel)
theorem lX4_236 : Cond.methodLink RX4 236 yX4_isSheet ∈ gtbl := tb_3 170 (by decide +kernel)
theorem lX4_240 : Cond.methodLink RX4 240 yX1_renew ∈ gtbl := tb_3 174 (by decide +kernel)
theorem lX1_22 : Cond.methodLink RX1 22 yJ7_fill_53178 ∈ gtbl := tb_3 178 (by decide +kernel)
theorem lX4_243 : Cond.methodLink RX4 243 yX4_findingOfSheet ∈ gtbl := tb_3 183 (by decide +kernel)
theorem lX4_246 : Cond.methodLink RX4 246 yX1_has ∈ gtbl := tb_3 187 (by decide +kernel)
theorem lX4_248 : Cond.methodLink RX4 248 yX1_put ∈ gtbl := tb_3 191 (by decide +kernel)
theorem lX4_268 : Cond.methodLink RX4 268 yX0_spotsInUse ∈ gtbl := tb_3 224 (by decide +kernel)
theorem lX5_105 : Cond.methodLink RX5 105 yX5_isKind ∈ gtbl := tb_4 121 (by decide +kernel)
theorem lX5_97 : Cond.methodLink RX5 97 yX5_within ∈ gtbl := tb_4 124 (by decide +kernel)
theorem lX5_109 : Cond.methodLink RX5 109 yX5_finding ∈ gtbl := tb_4 128 (by decide +kernel)
theorem lX5_114 : Cond.methodLink RX5 114 yX5_comes ∈ gtbl := tb_4 133 (by decide +kernel)
theorem lX5_101 : Cond.methodLink RX5 101 yX5_at ∈ gtbl := tb_4 137 (by decide +kernel)
theorem lX5_128 : Cond.methodLink RX5 128 yX5_isRoom ∈ gtbl := tb_4 144 (by decide +kernel)
theorem lX5_131 : Cond.methodLink RX5 131 yX5_wants ∈ gtbl := tb_4 148 (by decide +kernel)
theorem lX5_120 : Cond.methodLink RX5 120 yX5_roomIs ∈ gtbl := tb_4 152 (by decide +kernel)
theorem lX5_123 : Cond.methodLink RX5 123 yJ9_min_7cf53 ∈ gtbl := tb_4 156 (by decide +kernel)
theorem lX5_134 : Cond.methodLink RX5 134 yX5_become ∈ gtbl := tb_4 161 (by decide +kernel)
theorem lX5_137 : Cond.methodLink RX5 137 yX5_heatersOf ∈ gtbl := tb_4 173 (by decide +kernel)
theorem lX5_140 : Cond.methodLink RX5 140 yX5_has ∈ gtbl := tb_4 181 (by decide +kernel)
theorem lX5_148 : Cond.methodLink RX5 148 yX5_moved ∈ gtbl := tb_4 188 (by decide +kernel)
theorem lX5_144 : Cond.methodLink RX5 144 yX5_swap ∈ gtbl := tb_4 192 (by decide +kernel)
theorem lX5_160 : Cond.methodLink RX5 160 yX5_isTooLate ∈ gtbl := tb_4 200 (by decide +kernel)
theorem lX5_164 : Cond.methodLink RX5 164 yX5_hoursGo ∈ gtbl := tb_4 205 (by decide +kernel)
theorem lX5_156 : Cond.methodLink RX5 156 yX5_hour ∈ gtbl := tb_4 209 (by decide +kernel)
theorem lX5_150 : Cond.methodLink RX5 150 yX5_gets ∈ gtbl := tb_4 213 (by decide +kernel)
theorem lX5_153 : Cond.methodLink RX5 153 yJ9_max_7cf53 ∈ gtbl := tb_4 217 (by decide +kernel)
theorem lX5_170 : Cond.methodLink RX5 170 yX5_colds ∈ gtbl := tb_4 222 (by decide +kernel)
theorem lX5_173 : Cond.methodLink RX5 173 yX5_sum ∈ gtbl := tb_4 226 (by decide +kernel)
theorem lX5_167 : Cond.methodLink RX5 167 yX5_coldest ∈ gtbl := tb_4 230 (by decide +kernel)
theorem lX5_93 : Cond.methodLink RX5 93 yX5_copyRow ∈ gtbl := tb_4 238 (by decide +kernel)
theorem lX5_176 : Cond.methodLink RX5 176 yX5_leastWarmth ∈ gtbl := tb_5 1 (by decide +kernel)
theorem lX5_179 : Cond.methodLink RX5 179 yX5_putBack ∈ gtbl := tb_5 5 (by decide +kernel)
theorem lX5_187 : Cond.methodLink RX5 187 yX5_firstBelow ∈ gtbl := tb_5 13 (by decide +kernel)
theorem lX5_182 : Cond.methodLink RX5 182 yX5_isLate ∈ gtbl := tb_5 17 (by decide +kernel)
theorem lX5_191 : Cond.methodLink RX5 191 yX5_gave ∈ gtbl := tb_5 30 (by decide +kernel)
theorem lX5_198 : Cond.methodLink RX5 198 yX5_refuses ∈ gtbl := tb_5 42 (by decide +kernel)
theorem lX5_201 : Cond.methodLink RX5 201 yX5_liveAnyhow ∈ gtbl := tb_5 46 (by decide +kernel)
theorem lX5_194 : Cond.methodLink RX5 194 yX5_live ∈ gtbl := tb_5 50 (by decide +kernel)
theorem lX5_204 : Cond.methodLink RX5 204 yX5_bestOf ∈ gtbl := tb_5 58 (by decide +kernel)
theorem lX5_208 : Cond.methodLink RX5 208 yX5_refusesHours ∈ gtbl := tb_5 66 (by decide +kernel)
theorem lX5_221 : Cond.methodLink RX5 221 yX5_refusesPairs ∈ gtbl := tb_5 78 (by decide +kernel)
theorem lX5_224 : Cond.methodLink RX5 224 yX5_findPair ∈ gtbl := tb_5 82 (by decide +kernel)
theorem lX5_215 : Cond.methodLink RX5 215 yX5_leastThen ∈ gtbl := tb_5 86 (by decide +kernel)
theorem lX5_230 : Cond.methodLink RX5 230 yX5_dealOn ∈ gtbl := tb_5 102 (by decide +kernel)
theorem lX5_234 : Cond.methodLink RX5 234 yX5_leastFor ∈ gtbl := tb_5 110 (by decide +kernel)
theorem lX5_250 : Cond.methodLink RX5 250 yX5_findCulprits ∈ gtbl := tb_5 134 (by decide +kernel)
theorem lX5_247 : Cond.methodLink RX5 247 yX5_fits ∈ gtbl := tb_5 138 (by decide +kernel)
theorem lX5_254 : Cond.methodLink RX5 254 yX5_drawn ∈ gtbl := tb_5 150 (by decide +kernel)
theorem lX5_257 : Cond.methodLink RX5 257 yX5_aways ∈ gtbl := tb_5 155 (by decide +kernel)
theorem lX5_289 : Cond.methodLink RX5 289 yX5_next ∈ gtbl := tb_5 175 (by decide +kernel)
theorem lX5_269 : Cond.methodLink RX5 269 yX5_byteAt ∈ gtbl := tb_5 179 (by decide +kernel)
theorem lX5_327 : Cond.methodLink RX5 327 yX5_readItem ∈ gtbl := tb_5 183 (by decide +kernel)
theorem lX5_303 : Cond.methodLink RX5 303 yX5_kindTold ∈ gtbl := tb_5 187 (by decide +kernel)
theorem lX5_299 : Cond.methodLink RX5 299 yX5_isWord ∈ gtbl := tb_5 191 (by decide +kernel)
theorem lX5_278 : Cond.methodLink RX5 278 yJ0_length_8abf5 ∈ gtbl := tb_5 195 (by decide +kernel)
theorem lX5_281 : Cond.methodLink RX5 281 yJ0_charAt_5068e ∈ gtbl := tb_5 196 (by decide +kernel)
theorem lX5_292 : Cond.methodLink RX5 292 yX5_must ∈ gtbl := tb_5 197 (by decide +kernel)
theorem lX5_312 : Cond.methodLink RX5 312 yX5_row ∈ gtbl := tb_5 201 (by decide +kernel)
theorem lX5_315 : Cond.methodLink RX5 315 yX5_isNext ∈ gtbl := tb_5 205 (by decide +kernel)
theorem lX5_322 : Cond.methodLink RX5 322 yX5_number ∈ gtbl := tb_5 211 (by decide +kernel)
theorem lX5_330 : Cond.methodLink RX5 330 yX5_isSo ∈ gtbl := tb_5 216 (by decide +kernel)
theorem lX5_333 : Cond.methodLink RX5 333 yX5_isSpot ∈ gtbl := tb_5 224 (by decide +kernel)
theorem lX5_337 : Cond.methodLink RX5 337 yX5_isUnder ∈ gtbl := tb_5 232 (by decide +kernel)
theorem lX5_117 : Cond.methodLink RX5 117 yX5_above ∈ gtbl := tb_5 235 (by decide +kernel)
theorem lX5_341 : Cond.methodLink RX5 341 yX5_isSheet ∈ gtbl := tb_6 3 (by decide +kernel)
theorem lX5_345 : Cond.methodLink RX5 345 yX5_cutTo ∈ gtbl := tb_6 11 (by decide +kernel)
theorem qX0_77 : Cond.methodLink RX0 77 Lib.Math.min.name ∈ gtbl := tb_1 208 (by decide +kernel)
theorem qX0_100 : Cond.methodLink RX0 100 Lib.Math.max.name ∈ gtbl := tb_2 45 (by decide +kernel)
theorem qX0_71 : Cond.methodLink RX0 71 arraycopyName ∈ gtbl := tb_2 80 (by decide +kernel)
theorem qX3_146 : Cond.methodLink RX3 146 Lib.Math.min.name ∈ gtbl := tb_3 44 (by decide +kernel)
theorem qX4_257 : Cond.methodLink RX4 257 arraycopyName ∈ gtbl := tb_3 199 (by decide +kernel)
theorem qX5_123 : Cond.methodLink RX5 123 Lib.Math.min.name ∈ gtbl := tb_4 156 (by decide +kernel)
theorem qX5_153 : Cond.methodLink RX5 153 Lib.Math.max.name ∈ gtbl := tb_4 217 (by decide +kernel)
theorem kX4_52 : Cond.constant RX4 52 (-1000001) ∈ gtbl := tb_1 186 (by decide +kernel)
theorem kX4_61 : Cond.constant RX4 61 (-1000002) ∈ gtbl := tb_1 191 (by decide +kernel)
theorem kX4_119 : Cond.constant RX4 119 (-1000005) ∈ gtbl := tb_2 27 (by decide +kernel)
theorem kX4_137 : Cond.constant RX4 137 (-1000004) ∈ gtbl := tb_2 101 (by decide +kernel)
theorem kX0_116 : Cond.constant RX0 116 (1103515245) ∈ gtbl := tb_3 3 (by decide +kernel)
theorem kX4_230 : Cond.constant RX4 230 (-1000006) ∈ gtbl := tb_3 157 (by decide +kernel)
theorem kX4_235 : Cond.constant RX4 235 (-1000003) ∈ gtbl := tb_3 165 (by decide +kernel)
theorem kX4_239 : Cond.constant RX4 239 (-1000007) ∈ gtbl := tb_3 173 (by decide +kernel)
theorem kX5_92 : Cond.constant RX5 92 (-1000001) ∈ gtbl := tb_4 127 (by decide +kernel)
theorem kX5_113 : Cond.constant RX5 113 (-1000002) ∈ gtbl := tb_4 132 (by decide +kernel)
theorem kX5_163 : Cond.constant RX5 163 (-1000005) ∈ gtbl := tb_4 204 (by decide +kernel)
theorem kX5_186 : Cond.constant RX5 186 (-1000004) ∈ gtbl := tb_5 21 (by decide +kernel)
theorem kX5_253 : Cond.constant RX5 253 (1103515245) ∈ gtbl := tb_5 154 (by decide +kernel)
theorem kX5_336 : Cond.constant RX5 336 (-1000006) ∈ gtbl := tb_5 231 (by decide +kernel)
theorem kX5_340 : Cond.constant RX5 340 (-1000003) ∈ gtbl := tb_5 238 (by decide +kernel)
theorem kX5_344 : Cond.constant RX5 344 (-1000007) ∈ gtbl := tb_6 6 (by decide +kernel)
theorem tX4_167 : Cond.fieldLink RX4 167 "WarmWalls" (tnm 1) "[I" ∈ gtbl := tb_2 150 (by decide +kernel)
theorem tX4_170 : Cond.fieldLink RX4 170 "WarmWalls" (tnm 0) "[I" ∈ gtbl := tb_2 151 (by decide +kernel)
theorem CT.mk {y : MI} {sh : Shp} {d : Nat} {as : List Value} {M : Mem} {Q : Option Value → Mem → Prop} (ls : List (Option Value)) (hy : plainName y.1.cls = true) (hlen : as.length ≤ y.2.2.1) (hcat : as.all (fun v => v.category == 1) = true)
    (hls : as.map some ++ List.replicate (y.2.2.1 - as.length) none = ls) (g : G y sh d Q 0 ls [] M) : CT y sh d as M Q := CT.of hy hlen (fun v hv => eq_of_beq (List.all_eq_true.mp hcat v hv)) (hls ▸ g)
/-- a loop that counts up to n -/
theorem upto {P : Nat → Prop} (n : Nat) (h : ∀ i, i ≤ n → (∀ j, i < j → j ≤ n → P j) → P i) : ∀ i, i ≤ n → P i := by
  have key : ∀ k i, k + i = n → P i := by
    intro k
    induction k using Nat.strongRecOn with
    | _ k ih =>
      intro i hi
      exact h i (by omega) (fun j h1 h2 => ih (n - j) (by omega) j (by omega))
  intro i hi
  exact key (n - i) i (by omega)
end
section
/-! the shapes: a house, two houses, a row, the class, the reference -/
def shH : Shp := [.inl (0, [none, none, none, none, some 1, some 2, some 3, some 4, some 5, some 6, some 7, some 8, some 9, some 10]), .inr (.inl 8), .inr (.inl 8), .inr (.inl 8), .inr (.inl 8), .inr (.inl 8), .inr (.inl 8), .inr (.inl 8), .inr (.inl 8), .inr (.inl 8), .inr (.inl 10)]
def shH2 : Shp := shH ++ shH.map (mapE (fun j => j + 11))
def shI (n : Nat) : Shp := [.inr (.inl n)]
def shS : Shp := [.inl (1, [none, none, some 1]), .inr (.inl 40)]
def shT : Shp := [.inl (2, [some 1, none]), .inr (.inl 120)]
def shC : Shp := [.inl (4, [some 1, some 12, some 23, some 34, none, some 45, some 46, some 59, some 60])] ++ shH.map (mapE (fun j => j + 1)) ++ shH.map (mapE (fun j => j + 12)) ++ shH.map (mapE (fun j => j + 23)) ++ shH.map (mapE (fun j => j + 34)) ++
  [.inl (3, [some 46, some 48, none, none, none, none]), .inl (2, [some 47, none]), .inr (.inl 120)] ++ shH.map (mapE (fun j => j + 48)) ++ [.inr (.inr (2, [61, 63, 65, 67])), .inr (.inl 7)] ++
  [.inl (1, [none, none, some 62]), .inr (.inl 40), .inl (1, [none, none, some 64]), .inr (.inl 40), .inl (1, [none, none, some 66]), .inr (.inl 40), .inl (1, [none, none, some 68]), .inr (.inl 40)]
def shR : Shp := [.inl (5, [some 1, some 2, some 3, none, some 4, some 5, some 6, some 7, some 8, some 9, some 10, none, none, none, some 11, none, none, none, some 12, none, none, none, none, none, none, some 13, some 14, some 15, none, none, none, some 16, some 17, some 18, some 19]),
  .inr (.inl 86), .inr (.inl 86), .inr (.inl 86), .inr (.inl 8), .inr (.inl 9), .inr (.inl 9), .inr (.inl 8), .inr (.inl 8), .inr (.inl 8), .inr (.inl 8), .inr (.inl 86), .inr (.inl 120), .inr (.inr (1, [1100, 1101, 1102, 1103, 1104, 1105, 1106])), .inr (.inr (1, [1107, 1108, 1109, 1110])), .inr (.inl 2160), .inr (.inl 4), .inr (.inl 4), .inr (.inl 160), .inr (.inl 40)]
/-! a house among the cells -/
def hsub (b : Nat) : Nat → Nat := fun j => if j < 11 then b + j else j
def hsub2 (b c : Nat) : Nat → Nat := fun j => if j < 11 then b + j else if j < 22 then c + (j - 11) else j
def hof (M : Mem) (b : Nat) : Mem := fun j => M (b + j)
def hof2 (M : Mem) (b c : Nat) : Mem := fun j => if j < 11 then M (b + j) else M (c + (j - 11))
def hput (M : Mem) (b : Nat) (h : Mem) : Mem := fun c => if b ≤ c ∧ c < b + 11 then h (c - b) else M c
theorem hput_in {M h : Mem} {b j : Nat} (hj : j < 11) : hput M b h (b + j) = h j := by
  unfold hput
  rw [if_pos (by omega), Nat.add_sub_cancel_left]
theorem hput_out {M h : Mem} {b c : Nat} (hc : c < b ∨ b + 11 ≤ c) : hput M b h c = M c := if_neg (by omega)
/-- where a house may lie -/
def isH (b : Nat) : Prop := b = 1 ∨ b = 12 ∨ b = 23 ∨ b = 34 ∨ b = 48
theorem subH_k {b : Nat} (hb : isH b) : ∀ k, k < shH.length → shC[hsub b k]? = (shH[k]?).map (mapE (hsub b)) := by
  intro k hk
  have hk2 : k < 11 := hk
  have h : k = 0 ∨ k = 1 ∨ k = 2 ∨ k = 3 ∨ k = 4 ∨ k = 5 ∨ k = 6 ∨ k = 7 ∨ k = 8 ∨ k = 9 ∨ k = 10 := by omega
  rcases hb with rfl | rfl | rfl | rfl | rfl <;> rcases h with rfl | rfl | rfl | rfl | rfl | rfl | rfl | rfl | rfl | rfl | rfl <;> rfl
theorem subH {b : Nat} (hb : isH b) : Sub shH (hsub b) shC := by
  refine ⟨subH_k hb, fun i j hi hj e => ?_, fun j hj => ?_⟩
  · have h1 : i < 11 := hi
    have h2 : j < 11 := hj
    unfold hsub at e
    rw [if_pos h1, if_pos h2] at e
    omega
  · unfold hsub
    rw [if_neg (by omega)]
theorem mrgH {b : Nat} (M M' : Mem) : Mrg shH.length (hsub b) shC.length M M' (hput M b M') := by
  refine ⟨fun j hj => ?_, fun c _ h => ?_⟩
  · have h1 : j < 11 := hj
    unfold hsub
    rw [if_pos h1, hput_in h1]
  · refine hput_out ?_
    rcases Nat.lt_or_ge c b with h1 | h1
    · exact Or.inl h1
    · refine Or.inr (Nat.not_lt.mp fun h2 => h (c - b) (show c - b < 11 by omega) ?_)
      unfold hsub
      rw [if_pos (by omega)]
      omega
theorem hofM {M : Mem} {b : Nat} : ∀ j, j < shH.length → hof M b j = M (hsub b j) := by
  intro j hj
  have h1 : j < 11 := hj
  unfold hof hsub
  rw [if_pos h1]
def apart (b c : Nat) : Prop := b + 11 ≤ c ∨ c + 11 ≤ b
theorem subH2_k {b c : Nat} (hb : isH b) (hc : isH c) : ∀ k, k < shH2.length → shC[hsub2 b c k]? = (shH2[k]?).map (mapE (hsub2 b c)) := by
  intro k hk
  have hk2 : k < 22 := hk
  have h : k = 0 ∨ k = 1 ∨ k = 2 ∨ k = 3 ∨ k = 4 ∨ k = 5 ∨ k = 6 ∨ k = 7 ∨ k = 8 ∨ k = 9 ∨ k = 10 ∨ k = 11 ∨ k = 12 ∨ k = 13 ∨ k = 14 ∨ k = 15 ∨ k = 16 ∨ k = 17 ∨ k = 18 ∨ k = 19 ∨ k = 20 ∨ k = 21 := by omega
  rcases hb with rfl | rfl | rfl | rfl | rfl <;> rcases hc with rfl | rfl | rfl | rfl | rfl <;> rcases h with rfl | rfl | rfl | rfl | rfl | rfl | rfl | rfl | rfl | rfl | rfl | rfl | rfl | rfl | rfl | rfl | rfl | rfl | rfl | rfl | rfl | rfl <;> rfl
theorem subH2 {b c : Nat} (hb : isH b) (hc : isH c) (hbc : apart b c) : Sub shH2 (hsub2 b c) shC := by
  refine ⟨subH2_k hb hc, fun i j hi hj e => ?_, fun j hj => ?_⟩
  · have h1 : i < 22 := hi
    have h2 : j < 22 := hj
    unfold hsub2 at e
    unfold apart at hbc
    split at e <;> split at e <;> (try split at e) <;> (try split at e) <;> omega
  · unfold hsub2
    rw [if_neg (by omega), if_neg (by omega)]
def hput2 (M : Mem) (b c : Nat) (h : Mem) : Mem := hput (hput M b h) c (fun j => h (j + 11))
theorem mrgH2 {b c : Nat} (hbc : apart b c) (M M' : Mem) : Mrg shH2.length (hsub2 b c) shC.length M M' (hput2 M b c M') := by
  unfold apart at hbc
  refine ⟨fun j hj => ?_, fun q _ h => ?_⟩
  · have h1 : j < 22 := hj
    unfold hsub2 hput2
    by_cases h2 : j < 11
    · rw [if_pos h2, hput_out (by omega), hput_in h2]
    · rw [if_neg h2, if_pos h1, hput_in (by omega)]
      show M' (j - 11 + 11) = M' j
      rw [show j - 11 + 11 = j by omega]
  · unfold hput2
    have hb' : q < b ∨ b + 11 ≤ q := by
      rcases Nat.lt_or_ge q b with h1 | h1
      · exact Or.inl h1
      · refine Or.inr (Nat.not_lt.mp fun h2 => h (q - b) (show q - b < 22 by omega) ?_)
        unfold hsub2
        rw [if_pos (by omega)]
        omega
    have hc' : q < c ∨ c + 11 ≤ q := by
      rcases Nat.lt_or_ge q c with h1 | h1
      · exact Or.inl h1
      · refine Or.inr (Nat.not_lt.mp fun h2 => h (q - c + 11) (show q - c + 11 < 22 by omega) ?_)
        unfold hsub2
        rw [if_neg (by omega), if_pos (by omega)]
        omega
    rw [hput_out hc', hput_out hb']
theorem hofM2 {M : Mem} {b c : Nat} : ∀ j, j < shH2.length → hof2 M b c j = M (hsub2 b c j) := by
  intro j hj
  have h1 : j < 22 := hj
  unfold hof2 hsub2
  by_cases h2 : j < 11
  · rw [if_pos h2, if_pos h2]
  · rw [if_neg h2, if_neg h2, if_pos h1]
/-! calls in the same world -/
theorem tv_id (v : Value) : tv (fun j => j) v = v := by cases v <;> rfl
theorem map_tv_id (as : List Value) : as.map (tv fun j => j) = as := by
  rw [show tv (fun j => j) = _root_.id from funext tv_id, List.map_id]
theorem omap_tv_id (v : Option Value) : v.map (tv fun j => j) = v := by
  rw [show tv (fun j => j) = _root_.id from funext tv_id, Option.map_id]; rfl
section Calls0
variable {K : MI} {sh : Shp} {d : Nat} {Q : Option Value → Mem → Prop} {pc : Nat} {ls : List (Option Value)} {st : List Value} {M : Mem} {idx n d' r : Nat} {y : MI} {as rest : List Value} {Q' : Option Value → Mem → Prop}
theorem G_call0 (hc : CT y sh d' (.ref r :: as) M Q') (hy : VI y n) (hn : as.length = n) (hlink : Cond.methodLink K.1.cls idx y.1 ∈ gtbl) (hrec : ∃ ci fs q, sh[r]? = some (.inl (ci, fs)) ∧ vwCl[ci]? = some q ∧ q.1 = y.1.cls)
    (hd' : d' + 1 ≤ d) (hrest : (rest.map fun v => v.category).sum ≤ 8) (hd : decode K.2.1 pc = .ok (.invokevirtual idx, 3)) (hst : st = as.reverse ++ .ref r :: rest) (kk : ∀ v M', Q' v M' → G K sh d Q (pc + 3) ls (v.toList ++ rest) M') : G K sh d Q pc ls st M :=
  G_callV y sh (fun j => j) (fun M' => M') d' r as rest hc (Sub.id sh) (fun _ _ => rfl) (fun M' => Mrg.id _ _ M') hy hn hlink hrec hd' hrest hd (by rw [map_tv_id]; exact hst) (fun v M' h => by rw [omap_tv_id]; exact kk v M' h)
theorem G_callS0 (hc : CT y sh d' as M Q') (hy : SI y n) (hn : as.length = n) (hlink : Cond.methodLink K.1.cls idx y.1 ∈ gtbl)
    (hd' : d' + 1 ≤ d) (hrest : (rest.map fun v => v.category).sum ≤ 8) (hd : decode K.2.1 pc = .ok (.invokestatic idx, 3)) (hst : st = as.reverse ++ rest) (kk : ∀ v M', Q' v M' → G K sh d Q (pc + 3) ls (v.toList ++ rest) M') : G K sh d Q pc ls st M :=
  G_callS y sh (fun j => j) (fun M' => M') d' as rest hc (Sub.id sh) (fun _ _ => rfl) (fun M' => Mrg.id _ _ M') hy hn hlink hd' hrest hd (by rw [map_tv_id]; exact hst) (fun v M' h => by rw [omap_tv_id]; exact kk v M' h)
/-- an int, the memory as said -/
theorem G_cv {x : Int32} {M2 : Mem} (hc : CT y sh d' (.ref r :: as) M (fun v M' => v = some (.int x) ∧ M' = M2)) (hy : VI y n) (hn : as.length = n) (hlink : Cond.methodLink K.1.cls idx y.1 ∈ gtbl) (hd : decode K.2.1 pc = .ok (.invokevirtual idx, 3)) (hrec : ∃ ci fs q, sh[r]? = some (.inl (ci, fs)) ∧ vwCl[ci]? = some q ∧ q.1 = y.1.cls)
    (hd' : d' + 1 ≤ d) (hst : st = as.reverse ++ .ref r :: rest) (hrest : (rest.map fun v => v.category).sum ≤ 8) (kk : G K sh d Q (pc + 3) ls (.int x :: rest) M2) : G K sh d Q pc ls st M :=
  G_call0 hc hy hn hlink hrec hd' hrest hd hst (by rintro v M' ⟨rfl, rfl⟩; exact kk)
theorem G_cn {M2 : Mem} (hc : CT y sh d' (.ref r :: as) M (fun v M' => v = none ∧ M' = M2)) (hy : VI y n) (hn : as.length = n) (hlink : Cond.methodLink K.1.cls idx y.1 ∈ gtbl) (hd : decode K.2.1 pc = .ok (.invokevirtual idx, 3)) (hrec : ∃ ci fs q, sh[r]? = some (.inl (ci, fs)) ∧ vwCl[ci]? = some q ∧ q.1 = y.1.cls)
    (hd' : d' + 1 ≤ d) (hst : st = as.reverse ++ .ref r :: rest) (hrest : (rest.map fun v => v.category).sum ≤ 8) (kk : G K sh d Q (pc + 3) ls rest M2) : G K sh d Q pc ls st M :=
  G_call0 hc hy hn hlink hrec hd' hrest hd hst (by rintro v M' ⟨rfl, rfl⟩; exact kk)
theorem G_sv {x : Int32} {M2 : Mem} (hc : CT y sh d' as M (fun v M' => v = some (.int x) ∧ M' = M2)) (hy : SI y n) (hn : as.length = n) (hlink : Cond.methodLink K.1.cls idx y.1 ∈ gtbl) (hd : decode K.2.1 pc = .ok (.invokestatic idx, 3))
    (hd' : d' + 1 ≤ d) (hst : st = as.reverse ++ rest) (hrest : (rest.map fun v => v.category).sum ≤ 8) (kk : G K sh d Q (pc + 3) ls (.int x :: rest) M2) : G K sh d Q pc ls st M :=
  G_callS0 hc hy hn hlink hd' hrest hd hst (by rintro v M' ⟨rfl, rfl⟩; exact kk)
theorem G_sn {M2 : Mem} (hc : CT y sh d' as M (fun v M' => v = none ∧ M' = M2)) (hy : SI y n) (hn : as.length = n) (hlink : Cond.methodLink K.1.cls idx y.1 ∈ gtbl) (hd : decode K.2.1 pc = .ok (.invokestatic idx, 3))
    (hd' : d' + 1 ≤ d) (hst : st = as.reverse ++ rest) (hrest : (rest.map fun v => v.category).sum ≤ 8) (kk : G K sh d Q (pc + 3) ls rest M2) : G K sh d Q pc ls st M :=
  G_callS0 hc hy hn hlink hd' hrest hd hst (by rintro v M' ⟨rfl, rfl⟩; exact kk)
end Calls0
section CallsH
variable {K : MI} {d : Nat} {Q : Option Value → Mem → Prop} {pc : Nat} {ls : List (Option Value)} {st : List Value} {M : Mem} {idx n d' : Nat} {y : MI} {as rest : List Value} {Q' : Option Value → Mem → Prop}
/-- a house's method, from the class -/
theorem G_callH {b : Nat} (hb : isH b) (hc : CT y shH d' (.ref 0 :: as) (hof M b) Q') (hy : VI y n) (hn : as.length = n) (hlink : Cond.methodLink K.1.cls idx y.1 ∈ gtbl) (hcls : y.1.cls = RX0)
    (hd' : d' + 1 ≤ d) (hrest : (rest.map fun v => v.category).sum ≤ 8) (hd : decode K.2.1 pc = .ok (.invokevirtual idx, 3)) (hst : st = (as.map (tv (hsub b))).reverse ++ .ref b :: rest) (kk : ∀ v M', Q' v M' → G K shC d Q (pc + 3) ls ((v.map (tv (hsub b))).toList ++ rest) (hput M b M')) : G K shC d Q pc ls st M :=
  G_callV y shH (hsub b) (hput M b) d' 0 as rest hc (subH hb) hofM (fun M' => mrgH M M') hy hn hlink ⟨0, _, _, rfl, rfl, hcls.symm⟩ hd' hrest hd hst kk
theorem G_hv {b : Nat} {x : Int32} {h2 : Mem} (hb : isH b) (hc : CT y shH d' (.ref 0 :: as) (hof M b) (fun v M' => v = some (.int x) ∧ M' = h2)) (hy : VI y n) (hn : as.length = n) (hlink : Cond.methodLink K.1.cls idx y.1 ∈ gtbl) (hd : decode K.2.1 pc = .ok (.invokevirtual idx, 3)) (hcls : y.1.cls = RX0)
    (hd' : d' + 1 ≤ d) (hst : st = (as.map (tv (hsub b))).reverse ++ .ref b :: rest) (hrest : (rest.map fun v => v.category).sum ≤ 8) (kk : G K shC d Q (pc + 3) ls (.int x :: rest) (hput M b h2)) : G K shC d Q pc ls st M :=
  G_callH hb hc hy hn hlink hcls hd' hrest hd hst (by rintro v M' ⟨rfl, rfl⟩; exact kk)
theorem hput_hof (M : Mem) (b : Nat) : hput M b (hof M b) = M := by
  funext c
  unfold hput hof
  split
  · rw [show b + (c - b) = c by omega]
  · rfl
/-- .. that reads alone -/
theorem G_hp {b : Nat} {x : Int32} (hb : isH b) (hc : CT y shH d' (.ref 0 :: as) (hof M b) (fun v M' => v = some (.int x) ∧ M' = hof M b)) (hy : VI y n) (hn : as.length = n) (hlink : Cond.methodLink K.1.cls idx y.1 ∈ gtbl) (hd : decode K.2.1 pc = .ok (.invokevirtual idx, 3)) (hcls : y.1.cls = RX0)
    (hd' : d' + 1 ≤ d) (hst : st = (as.map (tv (hsub b))).reverse ++ .ref b :: rest) (hrest : (rest.map fun v => v.category).sum ≤ 8) (kk : G K shC d Q (pc + 3) ls (.int x :: rest) M) : G K shC d Q pc ls st M :=
  G_hv hb hc hy hn hlink hd hcls hd' hst hrest (by rw [hput_hof]; exact kk)
theorem G_hn {b : Nat} {h2 : Mem} (hb : isH b) (hc : CT y shH d' (.ref 0 :: as) (hof M b) (fun v M' => v = none ∧ M' = h2)) (hy : VI y n) (hn : as.length = n) (hlink : Cond.methodLink K.1.cls idx y.1 ∈ gtbl) (hd : decode K.2.1 pc = .ok (.invokevirtual idx, 3)) (hcls : y.1.cls = RX0)
    (hd' : d' + 1 ≤ d) (hst : st = (as.map (tv (hsub b))).reverse ++ .ref b :: rest) (hrest : (rest.map fun v => v.category).sum ≤ 8) (kk : G K shC d Q (pc + 3) ls rest (hput M b h2)) : G K shC d Q pc ls st M :=
  G_callH hb hc hy hn hlink hcls hd' hrest hd hst (by rintro v M' ⟨rfl, rfl⟩; exact kk)
theorem G_callH2 {b c : Nat} (hb : isH b) (hc' : isH c) (hbc : apart b c) (hc : CT y shH2 d' (.ref 0 :: as) (hof2 M b c) Q') (hy : VI y n) (hn : as.length = n) (hlink : Cond.methodLink K.1.cls idx y.1 ∈ gtbl) (hcls : y.1.cls = RX0)
    (hd' : d' + 1 ≤ d) (hrest : (rest.map fun v => v.category).sum ≤ 8) (hd : decode K.2.1 pc = .ok (.invokevirtual idx, 3)) (hst : st = (as.map (tv (hsub2 b c))).reverse ++ .ref b :: rest) (kk : ∀ v M', Q' v M' → G K shC d Q (pc + 3) ls ((v.map (tv (hsub2 b c))).toList ++ rest) (hput2 M b c M')) : G K shC d Q pc ls st M :=
  G_callV y shH2 (hsub2 b c) (hput2 M b c) d' 0 as rest hc (subH2 hb hc' hbc) hofM2 (fun M' => mrgH2 hbc M M') hy hn hlink ⟨0, _, _, rfl, rfl, hcls.symm⟩ hd' hrest hd hst kk
end CallsH
end
section
section Ends
variable {K : MI} {sh : Shp} {d : Nat} {Q : Option Value → Mem → Prop} {pc : Nat} {ls : List (Option Value)} {st : List Value} {M M2 : Mem}
theorem G_irm {x y : Int32} (hd : decode K.2.1 pc = .ok (.ireturn, 1)) (hr : K.2.2.2 = some .int) (hx : x = y) (hM : M = M2) (hQ : Q (some (.int y)) M2) : G K sh d Q pc ls [.int x] M := G_iret (st := []) hd hr (by rw [hx, hM]; exact hQ)
theorem G_zrm {x y : Int32} (hd : decode K.2.1 pc = .ok (.ireturn, 1)) (hr : K.2.2.2 = some .boolean) (hn : narrow .boolean (.int x) = .int x) (hx : x = y) (hM : M = M2) (hQ : Q (some (.int y)) M2) : G K sh d Q pc ls [.int x] M := G_zret (st := []) hd hr hn (by rw [hx, hM]; exact hQ)
theorem G_vrm (hd : decode K.2.1 pc = .ok (.return_, 1)) (hr : K.2.2.2 = none) (hM : M = M2) (hQ : Q none M2) : G K sh d Q pc ls [] M := G_vret (st := []) hd hr (by rw [hM]; exact hQ)
end Ends
/-! comparisons of numbers -/
theorem nI_toI {n : Nat} (h : n < 2147483648) : (nI n).toInt = (n : Int) := nI_toInt h
theorem i32_le {a b : Int32} : a ≤ b ↔ a.toInt ≤ b.toInt := Int32.le_iff_toInt_le
theorem i32_lt {a b : Int32} : a < b ↔ a.toInt < b.toInt := Int32.lt_iff_toInt_lt
/-- a number at least 0 and below nI n is one of them -/
theorem nI_of_has {x : Int32} {n : Nat} (hn : n < 2147483648) (h0 : ¬ x < 0) (h1 : ¬ nI n ≤ x) : ∃ k, k < n ∧ x = nI k := by
  rw [i32_lt] at h0
  rw [i32_le, nI_toI hn] at h1
  have h0' : ¬ x.toInt < 0 := h0
  have e : x = nI x.toInt.toNat := by
    apply Int32.toInt_inj.mp
    rw [nI_toI (by omega)]
    omega
  exact ⟨x.toInt.toNat, by omega, e⟩
theorem le_nn {i n : Nat} (hi : i < 2147483648) (hn : n < 2147483648) : nI n ≤ nI i ↔ n ≤ i := nI_leI hn hi
theorem lt_nn {i n : Nat} (hi : i < 2147483648) (hn : n < 2147483648) : nI i < nI n ↔ i < n := nI_ltI hi hn
end
section
/-! a house's own reads -/
def hasI (M : Mem) (r : Int32) : Int32 := if r < 0 then 0 else if M 0 0 ≤ r then 0 else 1
def sumN (f : Nat → Int32) : Nat → Int32
  | 0 => 0
  | n + 1 => sumN f n + f n
set_option maxRecDepth 20000 in
theorem c_X0_has {M : Mem} {r : Int32} {Q : Option Value → Mem → Prop} (hQ : Q (some (.int (hasI M r))) M) : CT mX0_has shH 0 [.ref 0, .int r] M Q := by
  refine CT.mk [some (.ref 0), some (.int r)] (by decide) (Nat.le_of_ble_eq_true rfl) rfl rfl ?_
  refine G_iload_n (K := mX0_has) (i := 1) dX0_has_0 rfl rfl ?_
  refine G_if_lt (K := mX0_has) (tgt := 16) dX0_has_1 (by decide) (fun c1 => ?_) (fun c1 => ?_)
  · skip
    refine G_iconst (K := mX0_has) (v := 0) dX0_has_16 (by decide) ?_
    exact G_zrm (K := mX0_has) dX0_has_17 rfl rfl (by simp [hasI, *]) (by rfl) hQ
  · skip
    refine G_iload_n (K := mX0_has) (i := 1) dX0_has_4 rfl rfl ?_
    refine G_aload_n (K := mX0_has) (i := 0) dX0_has_5 rfl rfl ?_
    refine G_geti (K := mX0_has) fX0_55 dX0_has_6 rfl rfl ?_
    refine G_icmp_ge (K := mX0_has) (tgt := 16) dX0_has_9 (by decide) (fun c9 => ?_) (fun c9 => ?_)
    · skip
      refine G_iconst (K := mX0_has) (v := 0) dX0_has_16 (by decide) ?_
      exact G_zrm (K := mX0_has) dX0_has_17 rfl rfl (by simp [hasI, *]) (by rfl) hQ
    · skip
      refine G_iconst (K := mX0_has) (v := 1) dX0_has_12 (by decide) ?_
      refine G_goto (K := mX0_has) (tgt := 17) dX0_has_13 (by decide) ?_
      exact G_zrm (K := mX0_has) dX0_has_17 rfl rfl (by simp [hasI, *]) (by rfl) hQ

set_option maxRecDepth 20000 in
theorem c_X0_sumOf {M : Mem} {n c : Nat} (hn : M 0 0 = nI n) (hn8 : n ≤ 8) (hc1 : 1 ≤ c) (hc2 : c < 10) {Q : Option Value → Mem → Prop} (hQ : Q (some (.int (sumN (M c) n))) M) : CT mX0_sumOf shH 0 [.ref 0, .ref c] M Q := by
  refine CT.mk [some (.ref 0), some (.ref c), none, none] (by decide) (Nat.le_of_ble_eq_true rfl) rfl rfl ?_
  have hs : shH[c]? = some (.inr (.inl 8)) := by
    have h : c = 1 ∨ c = 2 ∨ c = 3 ∨ c = 4 ∨ c = 5 ∨ c = 6 ∨ c = 7 ∨ c = 8 ∨ c = 9 := by omega
    rcases h with rfl | rfl | rfl | rfl | rfl | rfl | rfl | rfl | rfl <;> rfl
  refine G_iconst (K := mX0_sumOf) (v := 0) dX0_sumOf_0 (by decide) ?_
  refine G_istore_n (K := mX0_sumOf) (i := 2) dX0_sumOf_1 rfl (by decide) ?_
  refine G_iconst (K := mX0_sumOf) (v := 0) dX0_sumOf_2 (by decide) ?_
  refine G_istore_n (K := mX0_sumOf) (i := 3) dX0_sumOf_3 rfl (by decide) ?_
  have loop4 : ∀ i, i ≤ n → ∀ s, s = sumN (M c) i → G mX0_sumOf shH 0 Q 4 [some (.ref 0), some (.ref c), some (.int s), some (.int (nI i))] [] M := by
    refine upto n (fun i hi ih => ?_)
    intro s hs2
    refine G_iload_n (K := mX0_sumOf) (i := 3) dX0_sumOf_4 rfl rfl ?_
    refine G_aload_n (K := mX0_sumOf) (i := 0) dX0_sumOf_5 rfl rfl ?_
    refine G_geti (K := mX0_sumOf) fX0_55 dX0_sumOf_6 rfl rfl ?_
    refine G_icmp_ge (K := mX0_sumOf) (tgt := 24) dX0_sumOf_9 (by decide) (fun c9 => ?_) (fun c9 => ?_)
    · skip
      rw [hn, le_nn (by omega) (by omega)] at c9
      have hin : i = n := by omega
      subst hin
      refine G_iload_n (K := mX0_sumOf) (i := 2) dX0_sumOf_24 rfl rfl ?_
      exact G_irm (K := mX0_sumOf) dX0_sumOf_25 rfl (by exact hs2) (by rfl) hQ
    · skip
      rw [hn, le_nn (by omega) (by omega)] at c9
      refine G_iload_n (K := mX0_sumOf) (i := 2) dX0_sumOf_12 rfl rfl ?_
      refine G_aload_n (K := mX0_sumOf) (i := 1) dX0_sumOf_13 rfl rfl ?_
      refine G_iload_n (K := mX0_sumOf) (i := 3) dX0_sumOf_14 rfl rfl ?_
      refine G_ld (K := mX0_sumOf) _ dX0_sumOf_15 hs rfl (by omega) (by decide) ?_
      refine G_iadd (K := mX0_sumOf) dX0_sumOf_16 ?_
      refine G_istore_n (K := mX0_sumOf) (i := 2) dX0_sumOf_17 rfl (by decide) ?_
      refine G_iincN (K := mX0_sumOf) dX0_sumOf_18 (by decide) rfl ?_
      refine G_goto (K := mX0_sumOf) (tgt := 4) dX0_sumOf_21 (by decide) ?_
      exact ih (i + 1) (by omega) (by omega) _ (by rw [hs2]; rfl)
  exact loop4 0 (by omega) 0 rfl
end
