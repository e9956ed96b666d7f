section
-- ===== PART A: goes FIRST, ahead of the names: the tables' words, and 'selects' of the private methods out of them =====
/-- a private method of a class that the tables say can be made, by its rows of tables_1 -/
def lw_okq (q : MethodName × Nat) : Prop := (q.1.cls ≠ "java/lang/invoke/MethodHandle" ∧ q.1.cls ≠ "java/lang/invoke/VarHandle") ∧ Cond.instantiable q.1.cls q.2 ∈ tables_1 ∧ Cond.privateMethod q.1 ∈ tables_1 ∧ Cond.instanceMethod q.1 ∈ tables_1
theorem lw_p0 : lw_okq (⟨"WindCardShips$Game", "shipOn", "(I)LWindCardShips$Ship;"⟩, 10) := ⟨⟨by decide +kernel, by decide +kernel⟩, List.mem_of_getElem? (i := 31) (by decide +kernel), List.mem_of_getElem? (i := 272) (by decide +kernel), List.mem_of_getElem? (i := 273) (by decide +kernel)⟩
theorem lw_p1 : lw_okq (⟨"WindCardShips$Game", "islandCount", "()I"⟩, 10) := ⟨⟨by decide +kernel, by decide +kernel⟩, List.mem_of_getElem? (i := 31) (by decide +kernel), List.mem_of_getElem? (i := 280) (by decide +kernel), List.mem_of_getElem? (i := 281) (by decide +kernel)⟩
theorem lw_p2 : lw_okq (⟨"WindCardShips$Game", "isFree", "(I)Z"⟩, 10) := ⟨⟨by decide +kernel, by decide +kernel⟩, List.mem_of_getElem? (i := 31) (by decide +kernel), List.mem_of_getElem? (i := 305) (by decide +kernel), List.mem_of_getElem? (i := 306) (by decide +kernel)⟩
theorem lw_p3 : lw_okq (⟨"WindCardShips$Game", "isIsland", "(I)Z"⟩, 10) := ⟨⟨by decide +kernel, by decide +kernel⟩, List.mem_of_getElem? (i := 31) (by decide +kernel), List.mem_of_getElem? (i := 309) (by decide +kernel), List.mem_of_getElem? (i := 310) (by decide +kernel)⟩
theorem lw_p4 : lw_okq (⟨"WindCardShips$Game", "captainOf", "(I)LWindCardShips$Captain;"⟩, 10) := ⟨⟨by decide +kernel, by decide +kernel⟩, List.mem_of_getElem? (i := 31) (by decide +kernel), List.mem_of_getElem? (i := 321) (by decide +kernel), List.mem_of_getElem? (i := 322) (by decide +kernel)⟩
theorem lw_p5 : lw_okq (⟨"WindCardShips$Game", "beginMoves", "()V"⟩, 10) := ⟨⟨by decide +kernel, by decide +kernel⟩, List.mem_of_getElem? (i := 31) (by decide +kernel), List.mem_of_getElem? (i := 341) (by decide +kernel), List.mem_of_getElem? (i := 342) (by decide +kernel)⟩
theorem lw_p6 : lw_okq (⟨"WindCardShips$Game", "toldSet", "()I"⟩, 10) := ⟨⟨by decide +kernel, by decide +kernel⟩, List.mem_of_getElem? (i := 31) (by decide +kernel), List.mem_of_getElem? (i := 357) (by decide +kernel), List.mem_of_getElem? (i := 358) (by decide +kernel)⟩
theorem lw_p7 : lw_okq (⟨"WindCardShips$Ship", "speedFactor", "(I)I"⟩, 12) := ⟨⟨by decide +kernel, by decide +kernel⟩, List.mem_of_getElem? (i := 57) (by decide +kernel), List.mem_of_getElem? (i := 397) (by decide +kernel), List.mem_of_getElem? (i := 398) (by decide +kernel)⟩
theorem lw_p8 : lw_okq (⟨"WindCardShips$Game", "distanceAlong", "(IILWindCardShips$Ship;)I"⟩, 10) := ⟨⟨by decide +kernel, by decide +kernel⟩, List.mem_of_getElem? (i := 31) (by decide +kernel), List.mem_of_getElem? (i := 438) (by decide +kernel), List.mem_of_getElem? (i := 439) (by decide +kernel)⟩
theorem lw_p9 : lw_okq (⟨"WindCardShips$Game", "release", "(LWindCardShips$Ship;)V"⟩, 10) := ⟨⟨by decide +kernel, by decide +kernel⟩, List.mem_of_getElem? (i := 31) (by decide +kernel), List.mem_of_getElem? (i := 457) (by decide +kernel), List.mem_of_getElem? (i := 458) (by decide +kernel)⟩
theorem lw_p10 : lw_okq (⟨"WindCardShips$Game", "fight", "(LWindCardShips$Ship;LWindCardShips$Ship;)V"⟩, 10) := ⟨⟨by decide +kernel, by decide +kernel⟩, List.mem_of_getElem? (i := 31) (by decide +kernel), List.mem_of_getElem? (i := 506) (by decide +kernel), List.mem_of_getElem? (i := 507) (by decide +kernel)⟩
theorem lw_p11 : lw_okq (⟨"WindCardShips$Game", "capture", "(LWindCardShips$Ship;LWindCardShips$Ship;)V"⟩, 10) := ⟨⟨by decide +kernel, by decide +kernel⟩, List.mem_of_getElem? (i := 31) (by decide +kernel), List.mem_of_getElem? (i := 511) (by decide +kernel), List.mem_of_getElem? (i := 512) (by decide +kernel)⟩
theorem lw_p12 : lw_okq (⟨"WindCardShips$State", "slotOf", "(I)LWindCardShips$Game;"⟩, 4) := ⟨⟨by decide +kernel, by decide +kernel⟩, List.mem_of_getElem? (i := 25) (by decide +kernel), List.mem_of_getElem? (i := 523) (by decide +kernel), List.mem_of_getElem? (i := 524) (by decide +kernel)⟩
theorem lw_p13 : lw_okq (⟨"WindCardShips$Orders", "signAt", "(I)I"⟩, 7) := ⟨⟨by decide +kernel, by decide +kernel⟩, List.mem_of_getElem? (i := 178) (by decide +kernel), List.mem_of_getElem? (i := 579) (by decide +kernel), List.mem_of_getElem? (i := 580) (by decide +kernel)⟩
theorem lw_p14 : lw_okq (⟨"WindCardShips$Orders", "readSign", "(I)Z"⟩, 7) := ⟨⟨by decide +kernel, by decide +kernel⟩, List.mem_of_getElem? (i := 178) (by decide +kernel), List.mem_of_getElem? (i := 586) (by decide +kernel), List.mem_of_getElem? (i := 587) (by decide +kernel)⟩
theorem lw_p15 : lw_okq (⟨"WindCardShips$Orders", "readNumber", "()I"⟩, 7) := ⟨⟨by decide +kernel, by decide +kernel⟩, List.mem_of_getElem? (i := 178) (by decide +kernel), List.mem_of_getElem? (i := 593) (by decide +kernel), List.mem_of_getElem? (i := 594) (by decide +kernel)⟩
def lw_privs_1 : List (MethodName × Nat) := [(⟨"WindCardShips$Game", "shipOn", "(I)LWindCardShips$Ship;"⟩, 10), (⟨"WindCardShips$Game", "islandCount", "()I"⟩, 10), (⟨"WindCardShips$Game", "isFree", "(I)Z"⟩, 10), (⟨"WindCardShips$Game", "isIsland", "(I)Z"⟩, 10), (⟨"WindCardShips$Game", "captainOf", "(I)LWindCardShips$Captain;"⟩, 10), (⟨"WindCardShips$Game", "beginMoves", "()V"⟩, 10), (⟨"WindCardShips$Game", "toldSet", "()I"⟩, 10), (⟨"WindCardShips$Ship", "speedFactor", "(I)I"⟩, 12), (⟨"WindCardShips$Game", "distanceAlong", "(IILWindCardShips$Ship;)I"⟩, 10), (⟨"WindCardShips$Game", "release", "(LWindCardShips$Ship;)V"⟩, 10), (⟨"WindCardShips$Game", "fight", "(LWindCardShips$Ship;LWindCardShips$Ship;)V"⟩, 10), (⟨"WindCardShips$Game", "capture", "(LWindCardShips$Ship;LWindCardShips$Ship;)V"⟩, 10), (⟨"WindCardShips$State", "slotOf", "(I)LWindCardShips$Game;"⟩, 4), (⟨"WindCardShips$Orders", "signAt", "(I)I"⟩, 7), (⟨"WindCardShips$Orders", "readSign", "(I)Z"⟩, 7), (⟨"WindCardShips$Orders", "readNumber", "()I"⟩, 7)]
theorem lw_r1 : ∀ q ∈ lw_privs_1, lw_okq q := List.forall_mem_cons.mpr ⟨lw_p0, List.forall_mem_cons.mpr ⟨lw_p1, List.forall_mem_cons.mpr ⟨lw_p2, List.forall_mem_cons.mpr ⟨lw_p3, List.forall_mem_cons.mpr ⟨lw_p4, List.forall_mem_cons.mpr ⟨lw_p5, List.forall_mem_cons.mpr ⟨lw_p6, List.forall_mem_cons.mpr ⟨lw_p7, List.forall_mem_cons.mpr ⟨lw_p8, List.forall_mem_cons.mpr ⟨lw_p9, List.forall_mem_cons.mpr ⟨lw_p10, List.forall_mem_cons.mpr ⟨lw_p11, List.forall_mem_cons.mpr ⟨lw_p12, List.forall_mem_cons.mpr ⟨lw_p13, List.forall_mem_cons.mpr ⟨lw_p14, List.forall_mem_cons.mpr ⟨lw_p15, fun _ h => absurd h List.not_mem_nil⟩⟩⟩⟩⟩⟩⟩⟩⟩⟩⟩⟩⟩⟩⟩⟩
theorem lw_p16 : lw_okq (⟨"WindCardShips$Orders", "keepNumber", "(II)V"⟩, 7) := ⟨⟨by decide +kernel, by decide +kernel⟩, List.mem_of_getElem? (i := 178) (by decide +kernel), List.mem_of_getElem? (i := 597) (by decide +kernel), List.mem_of_getElem? (i := 598) (by decide +kernel)⟩
theorem lw_p17 : lw_okq (⟨"WindCardShips$Game", "fleetOf", "(I)I"⟩, 10) := ⟨⟨by decide +kernel, by decide +kernel⟩, List.mem_of_getElem? (i := 31) (by decide +kernel), List.mem_of_getElem? (i := 645) (by decide +kernel), List.mem_of_getElem? (i := 646) (by decide +kernel)⟩
theorem lw_p18 : lw_okq (⟨"WindCardShips$Game", "hullsOf", "(I)I"⟩, 10) := ⟨⟨by decide +kernel, by decide +kernel⟩, List.mem_of_getElem? (i := 31) (by decide +kernel), List.mem_of_getElem? (i := 658) (by decide +kernel), List.mem_of_getElem? (i := 659) (by decide +kernel)⟩
theorem lw_p19 : lw_okq (⟨"WindCardShips$Routes", "note", "(III)V"⟩, 4) := ⟨⟨by decide +kernel, by decide +kernel⟩, List.mem_of_getElem? (i := 206) (by decide +kernel), List.mem_of_getElem? (i := 711) (by decide +kernel), List.mem_of_getElem? (i := 712) (by decide +kernel)⟩
theorem lw_p20 : lw_okq (⟨"WindCardShips$Routes", "spread", "(LWindCardShips$Game;LWindCardShips$Ship;II)V"⟩, 4) := ⟨⟨by decide +kernel, by decide +kernel⟩, List.mem_of_getElem? (i := 206) (by decide +kernel), List.mem_of_getElem? (i := 718) (by decide +kernel), List.mem_of_getElem? (i := 719) (by decide +kernel)⟩
theorem lw_p21 : lw_okq (⟨"WindCardShips$Routes", "bestPath", "(I)I"⟩, 4) := ⟨⟨by decide +kernel, by decide +kernel⟩, List.mem_of_getElem? (i := 206) (by decide +kernel), List.mem_of_getElem? (i := 728) (by decide +kernel), List.mem_of_getElem? (i := 729) (by decide +kernel)⟩
theorem lw_p22 : lw_okq (⟨"WindCardShips$Routes", "headingAt", "(I)I"⟩, 4) := ⟨⟨by decide +kernel, by decide +kernel⟩, List.mem_of_getElem? (i := 206) (by decide +kernel), List.mem_of_getElem? (i := 732) (by decide +kernel), List.mem_of_getElem? (i := 733) (by decide +kernel)⟩
theorem lw_p23 : lw_okq (⟨"WindCardShips$Game", "cardsThatHelp", "(LWindCardShips$Ship;ILWindCardShips$Captain;I)I"⟩, 10) := ⟨⟨by decide +kernel, by decide +kernel⟩, List.mem_of_getElem? (i := 31) (by decide +kernel), List.mem_of_getElem? (i := 763) (by decide +kernel), List.mem_of_getElem? (i := 764) (by decide +kernel)⟩
theorem lw_p24 : lw_okq (⟨"WindCardShipsModel", "shipOn", "(I)I"⟩, 13) := ⟨⟨by decide +kernel, by decide +kernel⟩, List.mem_of_getElem? (i := 783) (by decide +kernel), List.mem_of_getElem? (i := 841) (by decide +kernel), List.mem_of_getElem? (i := 842) (by decide +kernel)⟩
theorem lw_p25 : lw_okq (⟨"WindCardShipsModel", "get", "(II)I"⟩, 13) := ⟨⟨by decide +kernel, by decide +kernel⟩, List.mem_of_getElem? (i := 783) (by decide +kernel), List.mem_of_getElem? (i := 845) (by decide +kernel), List.mem_of_getElem? (i := 846) (by decide +kernel)⟩
theorem lw_p26 : lw_okq (⟨"WindCardShipsModel", "act", "()V"⟩, 13) := ⟨⟨by decide +kernel, by decide +kernel⟩, List.mem_of_getElem? (i := 783) (by decide +kernel), List.mem_of_getElem? (i := 849) (by decide +kernel), List.mem_of_getElem? (i := 850) (by decide +kernel)⟩
theorem lw_p27 : lw_okq (⟨"WindCardShipsModel", "record", "()V"⟩, 13) := ⟨⟨by decide +kernel, by decide +kernel⟩, List.mem_of_getElem? (i := 783) (by decide +kernel), List.mem_of_getElem? (i := 853) (by decide +kernel), List.mem_of_getElem? (i := 854) (by decide +kernel)⟩
theorem lw_p28 : lw_okq (⟨"WindCardShipsModel", "islands", "()I"⟩, 13) := ⟨⟨by decide +kernel, by decide +kernel⟩, List.mem_of_getElem? (i := 783) (by decide +kernel), List.mem_of_getElem? (i := 857) (by decide +kernel), List.mem_of_getElem? (i := 858) (by decide +kernel)⟩
theorem lw_p29 : lw_okq (⟨"WindCardShipsModel", "isFree", "(I)Z"⟩, 13) := ⟨⟨by decide +kernel, by decide +kernel⟩, List.mem_of_getElem? (i := 783) (by decide +kernel), List.mem_of_getElem? (i := 872) (by decide +kernel), List.mem_of_getElem? (i := 873) (by decide +kernel)⟩
theorem lw_p30 : lw_okq (⟨"WindCardShipsModel", "put", "(III)V"⟩, 13) := ⟨⟨by decide +kernel, by decide +kernel⟩, List.mem_of_getElem? (i := 783) (by decide +kernel), List.mem_of_getElem? (i := 876) (by decide +kernel), List.mem_of_getElem? (i := 877) (by decide +kernel)⟩
theorem lw_p31 : lw_okq (⟨"WindCardShipsModel", "toldSet", "()I"⟩, 13) := ⟨⟨by decide +kernel, by decide +kernel⟩, List.mem_of_getElem? (i := 783) (by decide +kernel), List.mem_of_getElem? (i := 892) (by decide +kernel), List.mem_of_getElem? (i := 893) (by decide +kernel)⟩
def lw_privs_2 : List (MethodName × Nat) := [(⟨"WindCardShips$Orders", "keepNumber", "(II)V"⟩, 7), (⟨"WindCardShips$Game", "fleetOf", "(I)I"⟩, 10), (⟨"WindCardShips$Game", "hullsOf", "(I)I"⟩, 10), (⟨"WindCardShips$Routes", "note", "(III)V"⟩, 4), (⟨"WindCardShips$Routes", "spread", "(LWindCardShips$Game;LWindCardShips$Ship;II)V"⟩, 4), (⟨"WindCardShips$Routes", "bestPath", "(I)I"⟩, 4), (⟨"WindCardShips$Routes", "headingAt", "(I)I"⟩, 4), (⟨"WindCardShips$Game", "cardsThatHelp", "(LWindCardShips$Ship;ILWindCardShips$Captain;I)I"⟩, 10), (⟨"WindCardShipsModel", "shipOn", "(I)I"⟩, 13), (⟨"WindCardShipsModel", "get", "(II)I"⟩, 13), (⟨"WindCardShipsModel", "act", "()V"⟩, 13), (⟨"WindCardShipsModel", "record", "()V"⟩, 13), (⟨"WindCardShipsModel", "islands", "()I"⟩, 13), (⟨"WindCardShipsModel", "isFree", "(I)Z"⟩, 13), (⟨"WindCardShipsModel", "put", "(III)V"⟩, 13), (⟨"WindCardShipsModel", "toldSet", "()I"⟩, 13)]
theorem lw_r2 : ∀ q ∈ lw_privs_2, lw_okq q := List.forall_mem_cons.mpr ⟨lw_p16, List.forall_mem_cons.mpr ⟨lw_p17, List.forall_mem_cons.mpr ⟨lw_p18, List.forall_mem_cons.mpr ⟨lw_p19, List.forall_mem_cons.mpr ⟨lw_p20, List.forall_mem_cons.mpr ⟨lw_p21, List.forall_mem_cons.mpr ⟨lw_p22, List.forall_mem_cons.mpr ⟨lw_p23, List.forall_mem_cons.mpr ⟨lw_p24, List.forall_mem_cons.mpr ⟨lw_p25, List.forall_mem_cons.mpr ⟨lw_p26, List.forall_mem_cons.mpr ⟨lw_p27, List.forall_mem_cons.mpr ⟨lw_p28, List.forall_mem_cons.mpr ⟨lw_p29, List.forall_mem_cons.mpr ⟨lw_p30, List.forall_mem_cons.mpr ⟨lw_p31, fun _ h => absurd h List.not_mem_nil⟩⟩⟩⟩⟩⟩⟩⟩⟩⟩⟩⟩⟩⟩⟩⟩
theorem lw_p32 : lw_okq (⟨"WindCardShipsModel", "isShip", "(I)Z"⟩, 13) := ⟨⟨by decide +kernel, by decide +kernel⟩, List.mem_of_getElem? (i := 783) (by decide +kernel), List.mem_of_getElem? (i := 904) (by decide +kernel), List.mem_of_getElem? (i := 905) (by decide +kernel)⟩
theorem lw_p33 : lw_okq (⟨"WindCardShipsModel", "floats", "(I)Z"⟩, 13) := ⟨⟨by decide +kernel, by decide +kernel⟩, List.mem_of_getElem? (i := 783) (by decide +kernel), List.mem_of_getElem? (i := 908) (by decide +kernel), List.mem_of_getElem? (i := 909) (by decide +kernel)⟩
theorem lw_p34 : lw_okq (⟨"WindCardShipsModel", "stepsNow", "(I)I"⟩, 13) := ⟨⟨by decide +kernel, by decide +kernel⟩, List.mem_of_getElem? (i := 783) (by decide +kernel), List.mem_of_getElem? (i := 912) (by decide +kernel), List.mem_of_getElem? (i := 913) (by decide +kernel)⟩
theorem lw_p35 : lw_okq (⟨"WindCardShipsModel", "stepsBy", "(III)I"⟩, 13) := ⟨⟨by decide +kernel, by decide +kernel⟩, List.mem_of_getElem? (i := 783) (by decide +kernel), List.mem_of_getElem? (i := 916) (by decide +kernel), List.mem_of_getElem? (i := 917) (by decide +kernel)⟩
theorem lw_p36 : lw_okq (⟨"WindCardShipsModel", "goes", "(III)Z"⟩, 13) := ⟨⟨by decide +kernel, by decide +kernel⟩, List.mem_of_getElem? (i := 783) (by decide +kernel), List.mem_of_getElem? (i := 920) (by decide +kernel), List.mem_of_getElem? (i := 921) (by decide +kernel)⟩
theorem lw_p37 : lw_okq (⟨"WindCardShipsModel", "areTwo", "(II)Z"⟩, 13) := ⟨⟨by decide +kernel, by decide +kernel⟩, List.mem_of_getElem? (i := 783) (by decide +kernel), List.mem_of_getElem? (i := 931) (by decide +kernel), List.mem_of_getElem? (i := 932) (by decide +kernel)⟩
theorem lw_p38 : lw_okq (⟨"WindCardShipsModel", "farBy", "(III)I"⟩, 13) := ⟨⟨by decide +kernel, by decide +kernel⟩, List.mem_of_getElem? (i := 783) (by decide +kernel), List.mem_of_getElem? (i := 935) (by decide +kernel), List.mem_of_getElem? (i := 936) (by decide +kernel)⟩
theorem lw_p39 : lw_okq (⟨"WindCardShipsModel", "onLine", "(II)I"⟩, 13) := ⟨⟨by decide +kernel, by decide +kernel⟩, List.mem_of_getElem? (i := 783) (by decide +kernel), List.mem_of_getElem? (i := 939) (by decide +kernel), List.mem_of_getElem? (i := 940) (by decide +kernel)⟩
theorem lw_p40 : lw_okq (⟨"WindCardShipsModel", "mayFire", "(II)Z"⟩, 13) := ⟨⟨by decide +kernel, by decide +kernel⟩, List.mem_of_getElem? (i := 783) (by decide +kernel), List.mem_of_getElem? (i := 943) (by decide +kernel), List.mem_of_getElem? (i := 944) (by decide +kernel)⟩
theorem lw_p41 : lw_okq (⟨"WindCardShipsModel", "hitsAt", "(II)I"⟩, 13) := ⟨⟨by decide +kernel, by decide +kernel⟩, List.mem_of_getElem? (i := 783) (by decide +kernel), List.mem_of_getElem? (i := 947) (by decide +kernel), List.mem_of_getElem? (i := 948) (by decide +kernel)⟩
theorem lw_p42 : lw_okq (⟨"WindCardShipsModel", "lose", "(III)V"⟩, 13) := ⟨⟨by decide +kernel, by decide +kernel⟩, List.mem_of_getElem? (i := 783) (by decide +kernel), List.mem_of_getElem? (i := 951) (by decide +kernel), List.mem_of_getElem? (i := 952) (by decide +kernel)⟩
theorem lw_p43 : lw_okq (⟨"WindCardShipsModel", "free", "(I)V"⟩, 13) := ⟨⟨by decide +kernel, by decide +kernel⟩, List.mem_of_getElem? (i := 783) (by decide +kernel), List.mem_of_getElem? (i := 955) (by decide +kernel), List.mem_of_getElem? (i := 956) (by decide +kernel)⟩
theorem lw_p44 : lw_okq (⟨"WindCardShipsModel", "gainOf", "(II)I"⟩, 13) := ⟨⟨by decide +kernel, by decide +kernel⟩, List.mem_of_getElem? (i := 783) (by decide +kernel), List.mem_of_getElem? (i := 975) (by decide +kernel), List.mem_of_getElem? (i := 976) (by decide +kernel)⟩
theorem lw_p45 : lw_okq (⟨"WindCardShipsModel", "fight", "(II)V"⟩, 13) := ⟨⟨by decide +kernel, by decide +kernel⟩, List.mem_of_getElem? (i := 783) (by decide +kernel), List.mem_of_getElem? (i := 983) (by decide +kernel), List.mem_of_getElem? (i := 984) (by decide +kernel)⟩
theorem lw_p46 : lw_okq (⟨"WindCardShipsModel", "faultAt", "()I"⟩, 13) := ⟨⟨by decide +kernel, by decide +kernel⟩, List.mem_of_getElem? (i := 783) (by decide +kernel), List.mem_of_getElem? (i := 1012) (by decide +kernel), List.mem_of_getElem? (i := 1013) (by decide +kernel)⟩
theorem lw_p47 : lw_okq (⟨"WindCardShipsModel", "order", "()Z"⟩, 13) := ⟨⟨by decide +kernel, by decide +kernel⟩, List.mem_of_getElem? (i := 783) (by decide +kernel), List.mem_of_getElem? (i := 1016) (by decide +kernel), List.mem_of_getElem? (i := 1017) (by decide +kernel)⟩
def lw_privs_3 : List (MethodName × Nat) := [(⟨"WindCardShipsModel", "isShip", "(I)Z"⟩, 13), (⟨"WindCardShipsModel", "floats", "(I)Z"⟩, 13), (⟨"WindCardShipsModel", "stepsNow", "(I)I"⟩, 13), (⟨"WindCardShipsModel", "stepsBy", "(III)I"⟩, 13), (⟨"WindCardShipsModel", "goes", "(III)Z"⟩, 13), (⟨"WindCardShipsModel", "areTwo", "(II)Z"⟩, 13), (⟨"WindCardShipsModel", "farBy", "(III)I"⟩, 13), (⟨"WindCardShipsModel", "onLine", "(II)I"⟩, 13), (⟨"WindCardShipsModel", "mayFire", "(II)Z"⟩, 13), (⟨"WindCardShipsModel", "hitsAt", "(II)I"⟩, 13), (⟨"WindCardShipsModel", "lose", "(III)V"⟩, 13), (⟨"WindCardShipsModel", "free", "(I)V"⟩, 13), (⟨"WindCardShipsModel", "gainOf", "(II)I"⟩, 13), (⟨"WindCardShipsModel", "fight", "(II)V"⟩, 13), (⟨"WindCardShipsModel", "faultAt", "()I"⟩, 13), (⟨"WindCardShipsModel", "order", "()Z"⟩, 13)]
theorem lw_r3 : ∀ q ∈ lw_privs_3, lw_okq q := List.forall_mem_cons.mpr ⟨lw_p32, List.forall_mem_cons.mpr ⟨lw_p33, List.forall_mem_cons.mpr ⟨lw_p34, List.forall_mem_cons.mpr ⟨lw_p35, List.forall_mem_cons.mpr ⟨lw_p36, List.forall_mem_cons.mpr ⟨lw_p37, List.forall_mem_cons.mpr ⟨lw_p38, List.forall_mem_cons.mpr ⟨lw_p39, List.forall_mem_cons.mpr ⟨lw_p40, List.forall_mem_cons.mpr ⟨lw_p41, List.forall_mem_cons.mpr ⟨lw_p42, List.forall_mem_cons.mpr ⟨lw_p43, List.forall_mem_cons.mpr ⟨lw_p44, List.forall_mem_cons.mpr ⟨lw_p45, List.forall_mem_cons.mpr ⟨lw_p46, List.forall_mem_cons.mpr ⟨lw_p47, fun _ h => absurd h List.not_mem_nil⟩⟩⟩⟩⟩⟩⟩⟩⟩⟩⟩⟩⟩⟩⟩⟩
theorem lw_p48 : lw_okq (⟨"WindCardShipsModel", "letterAt", "(I)I"⟩, 13) := ⟨⟨by decide +kernel, by decide +kernel⟩, List.mem_of_getElem? (i := 783) (by decide +kernel), List.mem_of_getElem? (i := 1020) (by decide +kernel), List.mem_of_getElem? (i := 1021) (by decide +kernel)⟩
theorem lw_p49 : lw_okq (⟨"WindCardShipsModel", "number", "(I)Z"⟩, 13) := ⟨⟨by decide +kernel, by decide +kernel⟩, List.mem_of_getElem? (i := 783) (by decide +kernel), List.mem_of_getElem? (i := 1027) (by decide +kernel), List.mem_of_getElem? (i := 1028) (by decide +kernel)⟩
theorem lw_p50 : lw_okq (⟨"WindCardShipsModel", "letterAtBegin", "()I"⟩, 13) := ⟨⟨by decide +kernel, by decide +kernel⟩, List.mem_of_getElem? (i := 783) (by decide +kernel), List.mem_of_getElem? (i := 1033) (by decide +kernel), List.mem_of_getElem? (i := 1034) (by decide +kernel)⟩
theorem lw_p51 : lw_okq (⟨"WindCardShipsModel", "doOrder", "(I)I"⟩, 13) := ⟨⟨by decide +kernel, by decide +kernel⟩, List.mem_of_getElem? (i := 783) (by decide +kernel), List.mem_of_getElem? (i := 1039) (by decide +kernel), List.mem_of_getElem? (i := 1040) (by decide +kernel)⟩
theorem lw_p52 : lw_okq (⟨"WindCardShipsModel", "afloat", "(I)I"⟩, 13) := ⟨⟨by decide +kernel, by decide +kernel⟩, List.mem_of_getElem? (i := 783) (by decide +kernel), List.mem_of_getElem? (i := 1054) (by decide +kernel), List.mem_of_getElem? (i := 1055) (by decide +kernel)⟩
theorem lw_p53 : lw_okq (⟨"WindCardShipsModel", "pathTo", "(III)I"⟩, 13) := ⟨⟨by decide +kernel, by decide +kernel⟩, List.mem_of_getElem? (i := 783) (by decide +kernel), List.mem_of_getElem? (i := 1084) (by decide +kernel), List.mem_of_getElem? (i := 1085) (by decide +kernel)⟩
theorem lw_p54 : lw_okq (⟨"WindCardShipsModel", "cardsFor", "(III)I"⟩, 13) := ⟨⟨by decide +kernel, by decide +kernel⟩, List.mem_of_getElem? (i := 783) (by decide +kernel), List.mem_of_getElem? (i := 1103) (by decide +kernel), List.mem_of_getElem? (i := 1104) (by decide +kernel)⟩
def lw_privs_4 : List (MethodName × Nat) := [(⟨"WindCardShipsModel", "letterAt", "(I)I"⟩, 13), (⟨"WindCardShipsModel", "number", "(I)Z"⟩, 13), (⟨"WindCardShipsModel", "letterAtBegin", "()I"⟩, 13), (⟨"WindCardShipsModel", "doOrder", "(I)I"⟩, 13), (⟨"WindCardShipsModel", "afloat", "(I)I"⟩, 13), (⟨"WindCardShipsModel", "pathTo", "(III)I"⟩, 13), (⟨"WindCardShipsModel", "cardsFor", "(III)I"⟩, 13)]
theorem lw_r4 : ∀ q ∈ lw_privs_4, lw_okq q := List.forall_mem_cons.mpr ⟨lw_p48, List.forall_mem_cons.mpr ⟨lw_p49, List.forall_mem_cons.mpr ⟨lw_p50, List.forall_mem_cons.mpr ⟨lw_p51, List.forall_mem_cons.mpr ⟨lw_p52, List.forall_mem_cons.mpr ⟨lw_p53, List.forall_mem_cons.mpr ⟨lw_p54, fun _ h => absurd h List.not_mem_nil⟩⟩⟩⟩⟩⟩⟩
def lw_privs : List (MethodName × Nat) := lw_privs_1 ++ (lw_privs_2 ++ (lw_privs_3 ++ (lw_privs_4)))
def lw_tbl : List Cond := k2_sels lw_privs ++ tables_1
theorem lw_privs_ok : ∀ q ∈ lw_privs, lw_okq q := by
  show ∀ q ∈ lw_privs_1 ++ (lw_privs_2 ++ (lw_privs_3 ++ (lw_privs_4))), lw_okq q
  exact List.forall_mem_append.mpr ⟨lw_r1, List.forall_mem_append.mpr ⟨lw_r2, List.forall_mem_append.mpr ⟨lw_r3, lw_r4⟩⟩⟩
-- ===== end of PART A; then your names; then what follows =====
end
section
/-! ===== BEGIN words of one list among another's, by their places ===== -/
theorem goodIn_r {big : List Cond} (ws : List Cond) (ps : List Nat) (hp : ws = ps.filterMap (fun i => big[i]?)) (h : ws.all goodWord = true) : GoodIn big ws := by
  intro w hw
  have h1 := List.all_eq_true.mp h w hw
  rw [hp] at hw
  obtain ⟨i, -, hi⟩ := List.mem_filterMap.mp hw
  have hm : w ∈ big := by first | exact List.mem_of_getElem? hi | exact List.getElem?_mem hi
  exact ⟨hm, good_of_word h1⟩
theorem goodIn_app {big a b : List Cond} (ha : GoodIn big a) (hb : GoodIn big b) : GoodIn big (a ++ b) := fun w h => (List.mem_append.mp h).elim (ha w) (hb w)
theorem goodIn_ca {big a b : List Cond} {c : Cond} (ha : GoodIn big (c :: a)) (hb : GoodIn big b) : GoodIn big (c :: (a ++ b)) := fun w h => (List.mem_cons.mp h).elim (fun e => ha w (List.mem_cons.mpr (Or.inl e))) (fun h => (List.mem_append.mp h).elim (fun h => ha w (List.mem_cons.mpr (Or.inr h))) (hb w))
theorem goodIn_sub {big ws : List Cond} (hm : ∀ w ∈ ws, w ∈ big) (h : ws.all goodWord = true) : GoodIn big ws := fun w hw => ⟨hm w hw, good_of_word (List.all_eq_true.mp h w hw)⟩
/-! ===== END ===== -/

/-! ===== BEGIN printed: names, fields, word lists, decode rows ===== -/
def RX0 : String := "WindCardShips$Captain"
def TX0 : u_T := fun k => match k with
  | 0 => ("WindCardShips$Captain", "hand", "I", false)
  | 1 => ("WindCardShips$Captain", "card", "I", false)
  | _ => ("WindCardShips$Captain", "timber", "I", false)
def tyX0 : Nat → FieldType := fun k => match k with
  | 0 => .int
  | 1 => .int
  | _ => .int
abbrev wsX00 : List Cond := u_ws RX0 TX0 3
theorem nmX0 : ∀ a, a < 3 → ∀ b, b < 3 → a ≠ b → (TX0 a).2.1 ≠ (TX0 b).2.1 := by decide +kernel
theorem tyX0_ok : ∀ k, k < 3 → parseFieldDescriptor (TX0 k).2.2.1 = some (tyX0 k) := by decide +kernel
abbrev cX0_init : ByteArray := prog_2_method_1_code
def yX0_init : MethodName := ⟨RX0, "<init>", "()V"⟩
abbrev cX0_exists : ByteArray := prog_2_method_2_code
def yX0_exists : MethodName := ⟨RX0, "exists", "(I)Z"⟩
abbrev cX0_isCard : ByteArray := prog_2_method_3_code
def yX0_isCard : MethodName := ⟨RX0, "isCard", "(I)Z"⟩
abbrev cX0_copyFrom : ByteArray := prog_2_method_4_code
def yX0_copyFrom : MethodName := ⟨RX0, "copyFrom", "(LWindCardShips$Captain;)V"⟩
abbrev cX0_holds : ByteArray := prog_2_method_5_code
def yX0_holds : MethodName := ⟨RX0, "holds", "(I)Z"⟩
abbrev cX0_layDownCard : ByteArray := prog_2_method_6_code
def yX0_layDownCard : MethodName := ⟨RX0, "layDownCard", "()V"⟩
def RX1 : String := "WindCardShips$Game"
def TX1 : u_T := fun k => match k with
  | 0 => ("WindCardShips$Game", "turn", "I", false)
  | 1 => ("WindCardShips$Game", "moving", "Z", false)
  | 2 => ("WindCardShips$Game", "direction", "I", false)
  | 3 => ("WindCardShips$Game", "windStrength", "I", false)
  | 4 => ("WindCardShips$Game", "shipCount", "I", false)
  | 5 => ("WindCardShips$Game", "captures", "I", false)
  | 6 => ("WindCardShips$Game", "first", "LWindCardShips$Captain;", true)
  | 7 => ("WindCardShips$Game", "second", "LWindCardShips$Captain;", true)
  | 8 => ("WindCardShips$Game", "islands", "[I", true)
  | _ => ("WindCardShips$Game", "ships", "[LWindCardShips$Ship;", true)
def tyX1 : Nat → FieldType := fun k => match k with
  | 0 => .int
  | 1 => .boolean
  | 2 => .int
  | 3 => .int
  | 4 => .int
  | 5 => .int
  | 6 => .object "WindCardShips$Captain"
  | 7 => .object "WindCardShips$Captain"
  | 8 => .array .int
  | _ => .array (.object "WindCardShips$Ship")
abbrev wsX10 : List Cond := u_ws RX1 TX1 10
theorem nmX1 : ∀ a, a < 10 → ∀ b, b < 10 → a ≠ b → (TX1 a).2.1 ≠ (TX1 b).2.1 := by decide +kernel
theorem tyX1_ok : ∀ k, k < 10 → parseFieldDescriptor (TX1 k).2.2.1 = some (tyX1 k) := by decide +kernel
abbrev cX1_init : ByteArray := prog_3_method_1_code
def yX1_init : MethodName := ⟨RX1, "<init>", "()V"⟩
abbrev cX1_copyFrom : ByteArray := prog_3_method_2_code
def yX1_copyFrom : MethodName := ⟨RX1, "copyFrom", "(LWindCardShips$Game;)V"⟩
abbrev cX1_turn : ByteArray := prog_3_method_3_code
def yX1_turn : MethodName := ⟨RX1, "turn", "()I"⟩
abbrev cX1_captainOf : ByteArray := prog_3_method_4_code
def yX1_captainOf : MethodName := ⟨RX1, "captainOf", "(I)LWindCardShips$Captain;"⟩
abbrev cX1_known : ByteArray := prog_3_method_5_code
def yX1_known : MethodName := ⟨RX1, "known", "(I)LWindCardShips$Ship;"⟩
abbrev cX1_shipOn : ByteArray := prog_3_method_6_code
def yX1_shipOn : MethodName := ⟨RX1, "shipOn", "(I)LWindCardShips$Ship;"⟩
abbrev cX1_isIsland : ByteArray := prog_3_method_7_code
def yX1_isIsland : MethodName := ⟨RX1, "isIsland", "(I)Z"⟩
abbrev cX1_isFree : ByteArray := prog_3_method_8_code
def yX1_isFree : MethodName := ⟨RX1, "isFree", "(I)Z"⟩
abbrev cX1_hexAhead : ByteArray := prog_3_method_9_code
def yX1_hexAhead : MethodName := ⟨RX1, "hexAhead", "(LWindCardShips$Ship;II)I"⟩
abbrev cX1_contentOf : ByteArray := prog_3_method_10_code
def yX1_contentOf : MethodName := ⟨RX1, "contentOf", "(I)I"⟩
abbrev cX1_placeIsland : ByteArray := prog_3_method_11_code
def yX1_placeIsland : MethodName := ⟨RX1, "placeIsland", "(II)I"⟩
abbrev cX1_launch : ByteArray := prog_3_method_12_code
def yX1_launch : MethodName := ⟨RX1, "launch", "(IIIIII)I"⟩
abbrev cX1_stockTimber : ByteArray := prog_3_method_13_code
def yX1_stockTimber : MethodName := ⟨RX1, "stockTimber", "(II)I"⟩
abbrev cX1_tellCard : ByteArray := prog_3_method_14_code
def yX1_tellCard : MethodName := ⟨RX1, "tellCard", "(II)I"⟩
abbrev cX1_beginMoves : ByteArray := prog_3_method_15_code
def yX1_beginMoves : MethodName := ⟨RX1, "beginMoves", "()V"⟩
abbrev cX1_directionBy : ByteArray := prog_3_method_16_code
def yX1_directionBy : MethodName := ⟨RX1, "directionBy", "(I)I"⟩
abbrev cX1_strengthBy : ByteArray := prog_3_method_17_code
def yX1_strengthBy : MethodName := ⟨RX1, "strengthBy", "(I)I"⟩
abbrev cX1_toldSet : ByteArray := prog_3_method_18_code
def yX1_toldSet : MethodName := ⟨RX1, "toldSet", "()I"⟩
abbrev cX1_stepsNow : ByteArray := prog_3_method_19_code
def yX1_stepsNow : MethodName := ⟨RX1, "stepsNow", "(LWindCardShips$Ship;)I"⟩
abbrev cX1_sailAlong : ByteArray := prog_3_method_20_code
def yX1_sailAlong : MethodName := ⟨RX1, "sailAlong", "(II)I"⟩
abbrev cX1_fireAt : ByteArray := prog_3_method_21_code
def yX1_fireAt : MethodName := ⟨RX1, "fireAt", "(III)I"⟩
abbrev cX1_shotLength : ByteArray := prog_3_method_22_code
def yX1_shotLength : MethodName := ⟨RX1, "shotLength", "(LWindCardShips$Ship;ILWindCardShips$Ship;)I"⟩
abbrev cX1_distanceAlong : ByteArray := prog_3_method_23_code
def yX1_distanceAlong : MethodName := ⟨RX1, "distanceAlong", "(IILWindCardShips$Ship;)I"⟩
abbrev cX1_targetSet : ByteArray := prog_3_method_24_code
def yX1_targetSet : MethodName := ⟨RX1, "targetSet", "(LWindCardShips$Ship;I)I"⟩
abbrev cX1_threatSet : ByteArray := prog_3_method_25_code
def yX1_threatSet : MethodName := ⟨RX1, "threatSet", "(LWindCardShips$Ship;)I"⟩
abbrev cX1_grappleTwo : ByteArray := prog_3_method_26_code
def yX1_grappleTwo : MethodName := ⟨RX1, "grappleTwo", "(II)I"⟩
abbrev cX1_cutLoose : ByteArray := prog_3_method_27_code
def yX1_cutLoose : MethodName := ⟨RX1, "cutLoose", "(I)I"⟩
abbrev cX1_release : ByteArray := prog_3_method_28_code
def yX1_release : MethodName := ⟨RX1, "release", "(LWindCardShips$Ship;)V"⟩
abbrev cX1_fight : ByteArray := prog_3_method_29_code
def yX1_fight : MethodName := ⟨RX1, "fight", "(LWindCardShips$Ship;LWindCardShips$Ship;)V"⟩
abbrev cX1_capture : ByteArray := prog_3_method_30_code
def yX1_capture : MethodName := ⟨RX1, "capture", "(LWindCardShips$Ship;LWindCardShips$Ship;)V"⟩
abbrev cX1_mend : ByteArray := prog_3_method_31_code
def yX1_mend : MethodName := ⟨RX1, "mend", "(II)I"⟩
abbrev cX1_mendable : ByteArray := prog_3_method_32_code
def yX1_mendable : MethodName := ⟨RX1, "mendable", "(LWindCardShips$Ship;II)I"⟩
abbrev cX1_endTurn : ByteArray := prog_3_method_33_code
def yX1_endTurn : MethodName := ⟨RX1, "endTurn", "()I"⟩
abbrev cX1_tally : ByteArray := prog_3_method_34_code
def yX1_tally : MethodName := ⟨RX1, "tally", "(I)I"⟩
abbrev cX1_islandCount : ByteArray := prog_3_method_35_code
def yX1_islandCount : MethodName := ⟨RX1, "islandCount", "()I"⟩
abbrev cX1_fleetOf : ByteArray := prog_3_method_36_code
def yX1_fleetOf : MethodName := ⟨RX1, "fleetOf", "(I)I"⟩
abbrev cX1_hullsOf : ByteArray := prog_3_method_37_code
def yX1_hullsOf : MethodName := ⟨RX1, "hullsOf", "(I)I"⟩
abbrev cX1_strengthOf : ByteArray := prog_3_method_38_code
def yX1_strengthOf : MethodName := ⟨RX1, "strengthOf", "(I)I"⟩
abbrev cX1_tellOfCaptain : ByteArray := prog_3_method_39_code
def yX1_tellOfCaptain : MethodName := ⟨RX1, "tellOfCaptain", "(II)I"⟩
abbrev cX1_tellOfShip : ByteArray := prog_3_method_40_code
def yX1_tellOfShip : MethodName := ⟨RX1, "tellOfShip", "(LWindCardShips$Ship;I)I"⟩
abbrev cX1_cardFor : ByteArray := prog_3_method_41_code
def yX1_cardFor : MethodName := ⟨RX1, "cardFor", "(LWindCardShips$Ship;II)I"⟩
abbrev cX1_cardsThatHelp : ByteArray := prog_3_method_42_code
def yX1_cardsThatHelp : MethodName := ⟨RX1, "cardsThatHelp", "(LWindCardShips$Ship;ILWindCardShips$Captain;I)I"⟩
def RX2 : String := "WindCardShips$Hexes"
def TX2 : u_T := fun k => match k with
  | _ => ("", "", "", false)
def tyX2 : Nat → FieldType := fun k => match k with
  | _ => .int
abbrev wsX20 : List Cond := u_ws RX2 TX2 0
theorem nmX2 : ∀ a, a < 0 → ∀ b, b < 0 → a ≠ b → (TX2 a).2.1 ≠ (TX2 b).2.1 := by decide +kernel
theorem tyX2_ok : ∀ k, k < 0 → parseFieldDescriptor (TX2 k).2.2.1 = some (tyX2 k) := by decide +kernel
abbrev cX2_exists : ByteArray := prog_4_method_2_code
def yX2_exists : MethodName := ⟨RX2, "exists", "(I)Z"⟩
abbrev cX2_isDirection : ByteArray := prog_4_method_3_code
def yX2_isDirection : MethodName := ⟨RX2, "isDirection", "(I)Z"⟩
abbrev cX2_next : ByteArray := prog_4_method_4_code
def yX2_next : MethodName := ⟨RX2, "next", "(II)I"⟩
abbrev cX2_areNeighbors : ByteArray := prog_4_method_5_code
def yX2_areNeighbors : MethodName := ⟨RX2, "areNeighbors", "(II)Z"⟩
abbrev cX2_rowStep : ByteArray := prog_4_method_6_code
def yX2_rowStep : MethodName := ⟨RX2, "rowStep", "(I)I"⟩
abbrev cX2_columnStep : ByteArray := prog_4_method_7_code
def yX2_columnStep : MethodName := ⟨RX2, "columnStep", "(I)I"⟩
def RX3 : String := "WindCardShips$History"
def TX3 : u_T := fun k => match k with
  | 0 => ("WindCardShips$History", "rows", "[LWindCardShips$State;", true)
  | 1 => ("WindCardShips$History", "aside", "LWindCardShips$State;", false)
  | _ => ("WindCardShips$History", "size", "I", false)
def tyX3 : Nat → FieldType := fun k => match k with
  | 0 => .array (.object "WindCardShips$State")
  | 1 => .object "WindCardShips$State"
  | _ => .int
abbrev wsX30 : List Cond := u_ws RX3 TX3 3
theorem nmX3 : ∀ a, a < 3 → ∀ b, b < 3 → a ≠ b → (TX3 a).2.1 ≠ (TX3 b).2.1 := by decide +kernel
theorem tyX3_ok : ∀ k, k < 3 → parseFieldDescriptor (TX3 k).2.2.1 = some (tyX3 k) := by decide +kernel
abbrev cX3_init : ByteArray := prog_5_method_1_code
def yX3_init : MethodName := ⟨RX3, "<init>", "()V"⟩
abbrev cX3_size : ByteArray := prog_5_method_2_code
def yX3_size : MethodName := ⟨RX3, "size", "()I"⟩
abbrev cX3_keepAside : ByteArray := prog_5_method_3_code
def yX3_keepAside : MethodName := ⟨RX3, "keepAside", "(LWindCardShips$State;)V"⟩
abbrev cX3_settle : ByteArray := prog_5_method_4_code
def yX3_settle : MethodName := ⟨RX3, "settle", "(I)I"⟩
abbrev cX3_stepBack : ByteArray := prog_5_method_5_code
def yX3_stepBack : MethodName := ⟨RX3, "stepBack", "(LWindCardShips$State;)I"⟩
def RX4 : String := "WindCardShips$Orders"
def TX4 : u_T := fun k => match k with
  | 0 => ("WindCardShips$Orders", "signs", "[I", true)
  | 1 => ("WindCardShips$Orders", "length", "I", false)
  | 2 => ("WindCardShips$Orders", "at", "I", false)
  | 3 => ("WindCardShips$Orders", "letter", "I", false)
  | 4 => ("WindCardShips$Orders", "one", "I", false)
  | 5 => ("WindCardShips$Orders", "two", "I", false)
  | _ => ("WindCardShips$Orders", "three", "I", false)
def tyX4 : Nat → FieldType := fun k => match k with
  | 0 => .array .int
  | 1 => .int
  | 2 => .int
  | 3 => .int
  | 4 => .int
  | 5 => .int
  | _ => .int
abbrev wsX40 : List Cond := u_ws RX4 TX4 7
theorem nmX4 : ∀ a, a < 7 → ∀ b, b < 7 → a ≠ b → (TX4 a).2.1 ≠ (TX4 b).2.1 := by decide +kernel
theorem tyX4_ok : ∀ k, k < 7 → parseFieldDescriptor (TX4 k).2.2.1 = some (tyX4 k) := by decide +kernel
abbrev cX4_init : ByteArray := prog_6_method_1_code
def yX4_init : MethodName := ⟨RX4, "<init>", "()V"⟩
abbrev cX4_length : ByteArray := prog_6_method_2_code
def yX4_length : MethodName := ⟨RX4, "length", "()I"⟩
abbrev cX4_addSign : ByteArray := prog_6_method_3_code
def yX4_addSign : MethodName := ⟨RX4, "addSign", "(I)I"⟩
abbrev cX4_dropSigns : ByteArray := prog_6_method_4_code
def yX4_dropSigns : MethodName := ⟨RX4, "dropSigns", "()I"⟩
abbrev cX4_rewind : ByteArray := prog_6_method_5_code
def yX4_rewind : MethodName := ⟨RX4, "rewind", "()V"⟩
abbrev cX4_atEnd : ByteArray := prog_6_method_6_code
def yX4_atEnd : MethodName := ⟨RX4, "atEnd", "()Z"⟩
abbrev cX4_fault : ByteArray := prog_6_method_7_code
def yX4_fault : MethodName := ⟨RX4, "fault", "()I"⟩
abbrev cX4_readSeparator : ByteArray := prog_6_method_8_code
def yX4_readSeparator : MethodName := ⟨RX4, "readSeparator", "()Z"⟩
abbrev cX4_readOrder : ByteArray := prog_6_method_9_code
def yX4_readOrder : MethodName := ⟨RX4, "readOrder", "()Z"⟩
abbrev cX4_signAt : ByteArray := prog_6_method_10_code
def yX4_signAt : MethodName := ⟨RX4, "signAt", "(I)I"⟩
abbrev cX4_readSign : ByteArray := prog_6_method_11_code
def yX4_readSign : MethodName := ⟨RX4, "readSign", "(I)Z"⟩
abbrev cX4_isDigit : ByteArray := prog_6_method_12_code
def yX4_isDigit : MethodName := ⟨RX4, "isDigit", "(I)Z"⟩
abbrev cX4_readNumber : ByteArray := prog_6_method_13_code
def yX4_readNumber : MethodName := ⟨RX4, "readNumber", "()I"⟩
abbrev cX4_keepNumber : ByteArray := prog_6_method_14_code
def yX4_keepNumber : MethodName := ⟨RX4, "keepNumber", "(II)V"⟩
abbrev cX4_numbersOf : ByteArray := prog_6_method_15_code
def yX4_numbersOf : MethodName := ⟨RX4, "numbersOf", "(I)I"⟩
abbrev cX4_obey : ByteArray := prog_6_method_16_code
def yX4_obey : MethodName := ⟨RX4, "obey", "(LWindCardShips$Game;)I"⟩
def RX5 : String := "WindCardShips$Path"
def TX5 : u_T := fun k => match k with
  | _ => ("", "", "", false)
def tyX5 : Nat → FieldType := fun k => match k with
  | _ => .int
abbrev wsX50 : List Cond := u_ws RX5 TX5 0
theorem nmX5 : ∀ a, a < 0 → ∀ b, b < 0 → a ≠ b → (TX5 a).2.1 ≠ (TX5 b).2.1 := by decide +kernel
theorem tyX5_ok : ∀ k, k < 0 → parseFieldDescriptor (TX5 k).2.2.1 = some (tyX5 k) := by decide +kernel
abbrev cX5_isPath : ByteArray := prog_7_method_2_code
def yX5_isPath : MethodName := ⟨RX5, "isPath", "(I)Z"⟩
abbrev cX5_stepsOf : ByteArray := prog_7_method_3_code
def yX5_stepsOf : MethodName := ⟨RX5, "stepsOf", "(I)I"⟩
abbrev cX5_unitOf : ByteArray := prog_7_method_4_code
def yX5_unitOf : MethodName := ⟨RX5, "unitOf", "(I)I"⟩
abbrev cX5_turned : ByteArray := prog_7_method_5_code
def yX5_turned : MethodName := ⟨RX5, "turned", "(II)I"⟩
def RX6 : String := "WindCardShips$Routes"
def TX6 : u_T := fun k => match k with
  | 0 => ("WindCardShips$Routes", "pathTo", "[I", true)
  | 1 => ("WindCardShips$Routes", "queue", "[I", true)
  | 2 => ("WindCardShips$Routes", "arrival", "[I", true)
  | _ => ("WindCardShips$Routes", "queued", "I", false)
def tyX6 : Nat → FieldType := fun k => match k with
  | 0 => .array .int
  | 1 => .array .int
  | 2 => .array .int
  | _ => .int
abbrev wsX60 : List Cond := u_ws RX6 TX6 4
theorem nmX6 : ∀ a, a < 4 → ∀ b, b < 4 → a ≠ b → (TX6 a).2.1 ≠ (TX6 b).2.1 := by decide +kernel
theorem tyX6_ok : ∀ k, k < 4 → parseFieldDescriptor (TX6 k).2.2.1 = some (tyX6 k) := by decide +kernel
abbrev cX6_init : ByteArray := prog_8_method_1_code
def yX6_init : MethodName := ⟨RX6, "<init>", "()V"⟩
abbrev cX6_explore : ByteArray := prog_8_method_2_code
def yX6_explore : MethodName := ⟨RX6, "explore", "(LWindCardShips$Game;LWindCardShips$Ship;I)V"⟩
abbrev cX6_spread : ByteArray := prog_8_method_3_code
def yX6_spread : MethodName := ⟨RX6, "spread", "(LWindCardShips$Game;LWindCardShips$Ship;II)V"⟩
abbrev cX6_note : ByteArray := prog_8_method_4_code
def yX6_note : MethodName := ⟨RX6, "note", "(III)V"⟩
abbrev cX6_bestPath : ByteArray := prog_8_method_5_code
def yX6_bestPath : MethodName := ⟨RX6, "bestPath", "(I)I"⟩
abbrev cX6_fewestSteps : ByteArray := prog_8_method_6_code
def yX6_fewestSteps : MethodName := ⟨RX6, "fewestSteps", "(I)I"⟩
abbrev cX6_tellOfWay : ByteArray := prog_8_method_7_code
def yX6_tellOfWay : MethodName := ⟨RX6, "tellOfWay", "(II)I"⟩
abbrev cX6_headingAt : ByteArray := prog_8_method_8_code
def yX6_headingAt : MethodName := ⟨RX6, "headingAt", "(I)I"⟩
abbrev cX6_reachedHexes : ByteArray := prog_8_method_9_code
def yX6_reachedHexes : MethodName := ⟨RX6, "reachedHexes", "()I"⟩
def RX7 : String := "WindCardShips$Ship"
def TX7 : u_T := fun k => match k with
  | 0 => ("WindCardShips$Ship", "number", "I", true)
  | 1 => ("WindCardShips$Ship", "captain", "I", false)
  | 2 => ("WindCardShips$Ship", "hex", "I", false)
  | 3 => ("WindCardShips$Ship", "heading", "I", false)
  | 4 => ("WindCardShips$Ship", "hull", "I", false)
  | 5 => ("WindCardShips$Ship", "sails", "I", false)
  | 6 => ("WindCardShips$Ship", "crew", "I", false)
  | 7 => ("WindCardShips$Ship", "guns", "I", false)
  | 8 => ("WindCardShips$Ship", "grappledWith", "I", false)
  | 9 => ("WindCardShips$Ship", "leftReady", "I", false)
  | 10 => ("WindCardShips$Ship", "rightReady", "I", false)
  | _ => ("WindCardShips$Ship", "done", "I", false)
def tyX7 : Nat → FieldType := fun k => match k with
  | 0 => .int
  | 1 => .int
  | 2 => .int
  | 3 => .int
  | 4 => .int
  | 5 => .int
  | 6 => .int
  | 7 => .int
  | 8 => .int
  | 9 => .int
  | 10 => .int
  | _ => .int
abbrev wsX70 : List Cond := u_ws RX7 TX7 12
theorem nmX7 : ∀ a, a < 12 → ∀ b, b < 12 → a ≠ b → (TX7 a).2.1 ≠ (TX7 b).2.1 := by decide +kernel
theorem tyX7_ok : ∀ k, k < 12 → parseFieldDescriptor (TX7 k).2.2.1 = some (tyX7 k) := by decide +kernel
abbrev cX7_init : ByteArray := prog_9_method_1_code
def yX7_init : MethodName := ⟨RX7, "<init>", "(I)V"⟩
abbrev cX7_hasSide : ByteArray := prog_9_method_2_code
def yX7_hasSide : MethodName := ⟨RX7, "hasSide", "(I)Z"⟩
abbrev cX7_copyFrom : ByteArray := prog_9_method_3_code
def yX7_copyFrom : MethodName := ⟨RX7, "copyFrom", "(LWindCardShips$Ship;)V"⟩
abbrev cX7_floats : ByteArray := prog_9_method_4_code
def yX7_floats : MethodName := ⟨RX7, "floats", "()Z"⟩
abbrev cX7_isGrappled : ByteArray := prog_9_method_5_code
def yX7_isGrappled : MethodName := ⟨RX7, "isGrappled", "()Z"⟩
abbrev cX7_has : ByteArray := prog_9_method_6_code
def yX7_has : MethodName := ⟨RX7, "has", "(I)Z"⟩
abbrev cX7_stepsBy : ByteArray := prog_9_method_7_code
def yX7_stepsBy : MethodName := ⟨RX7, "stepsBy", "(II)I"⟩
abbrev cX7_speedFactor : ByteArray := prog_9_method_8_code
def yX7_speedFactor : MethodName := ⟨RX7, "speedFactor", "(I)I"⟩
abbrev cX7_hitsFrom : ByteArray := prog_9_method_9_code
def yX7_hitsFrom : MethodName := ⟨RX7, "hitsFrom", "(I)I"⟩
abbrev cX7_suffer : ByteArray := prog_9_method_10_code
def yX7_suffer : MethodName := ⟨RX7, "suffer", "(I)V"⟩
abbrev cX7_noteShot : ByteArray := prog_9_method_11_code
def yX7_noteShot : MethodName := ⟨RX7, "noteShot", "(II)V"⟩
abbrev cX7_reloadingSides : ByteArray := prog_9_method_12_code
def yX7_reloadingSides : MethodName := ⟨RX7, "reloadingSides", "(I)I"⟩
abbrev cX7_isReloading : ByteArray := prog_9_method_13_code
def yX7_isReloading : MethodName := ⟨RX7, "isReloading", "(II)Z"⟩
def RX8 : String := "WindCardShips$State"
def TX8 : u_T := fun k => match k with
  | 0 => ("WindCardShips$State", "game", "LWindCardShips$Game;", true)
  | 1 => ("WindCardShips$State", "firstSlot", "LWindCardShips$Game;", true)
  | 2 => ("WindCardShips$State", "secondSlot", "LWindCardShips$Game;", true)
  | _ => ("WindCardShips$State", "taken", "I", false)
def tyX8 : Nat → FieldType := fun k => match k with
  | 0 => .object "WindCardShips$Game"
  | 1 => .object "WindCardShips$Game"
  | 2 => .object "WindCardShips$Game"
  | _ => .int
abbrev wsX80 : List Cond := u_ws RX8 TX8 4
theorem nmX8 : ∀ a, a < 4 → ∀ b, b < 4 → a ≠ b → (TX8 a).2.1 ≠ (TX8 b).2.1 := by decide +kernel
theorem tyX8_ok : ∀ k, k < 4 → parseFieldDescriptor (TX8 k).2.2.1 = some (tyX8 k) := by decide +kernel
abbrev cX8_init : ByteArray := prog_10_method_1_code
def yX8_init : MethodName := ⟨RX8, "<init>", "()V"⟩
abbrev cX8_copyFrom : ByteArray := prog_10_method_2_code
def yX8_copyFrom : MethodName := ⟨RX8, "copyFrom", "(LWindCardShips$State;)V"⟩
abbrev cX8_fillSlot : ByteArray := prog_10_method_3_code
def yX8_fillSlot : MethodName := ⟨RX8, "fillSlot", "(I)I"⟩
abbrev cX8_resumeSlot : ByteArray := prog_10_method_4_code
def yX8_resumeSlot : MethodName := ⟨RX8, "resumeSlot", "(I)I"⟩
abbrev cX8_slotOf : ByteArray := prog_10_method_5_code
def yX8_slotOf : MethodName := ⟨RX8, "slotOf", "(I)LWindCardShips$Game;"⟩
def RX9 : String := "WindCardShips"
def TX9 : u_T := fun k => match k with
  | 0 => ("WindCardShips", "state", "LWindCardShips$State;", true)
  | 1 => ("WindCardShips", "history", "LWindCardShips$History;", true)
  | 2 => ("WindCardShips", "orders", "LWindCardShips$Orders;", true)
  | _ => ("WindCardShips", "routes", "LWindCardShips$Routes;", true)
def tyX9 : Nat → FieldType := fun k => match k with
  | 0 => .object "WindCardShips$State"
  | 1 => .object "WindCardShips$History"
  | 2 => .object "WindCardShips$Orders"
  | _ => .object "WindCardShips$Routes"
abbrev wsX90 : List Cond := u_ws RX9 TX9 4
theorem nmX9 : ∀ a, a < 4 → ∀ b, b < 4 → a ≠ b → (TX9 a).2.1 ≠ (TX9 b).2.1 := by decide +kernel
theorem tyX9_ok : ∀ k, k < 4 → parseFieldDescriptor (TX9 k).2.2.1 = some (tyX9 k) := by decide +kernel
abbrev cX9_init : ByteArray := prog_1_method_1_code
def yX9_init : MethodName := ⟨RX9, "<init>", "()V"⟩
abbrev cX9_setIsland : ByteArray := prog_1_method_2_code
def yX9_setIsland : MethodName := ⟨RX9, "setIsland", "(II)I"⟩
abbrev cX9_addShip : ByteArray := prog_1_method_3_code
def yX9_addShip : MethodName := ⟨RX9, "addShip", "(IIIIII)I"⟩
abbrev cX9_setTimber : ByteArray := prog_1_method_4_code
def yX9_setTimber : MethodName := ⟨RX9, "setTimber", "(II)I"⟩
abbrev cX9_tell : ByteArray := prog_1_method_5_code
def yX9_tell : MethodName := ⟨RX9, "tell", "(II)I"⟩
abbrev cX9_sail : ByteArray := prog_1_method_6_code
def yX9_sail : MethodName := ⟨RX9, "sail", "(II)I"⟩
abbrev cX9_fire : ByteArray := prog_1_method_7_code
def yX9_fire : MethodName := ⟨RX9, "fire", "(III)I"⟩
abbrev cX9_grapple : ByteArray := prog_1_method_8_code
def yX9_grapple : MethodName := ⟨RX9, "grapple", "(II)I"⟩
abbrev cX9_cut : ByteArray := prog_1_method_9_code
def yX9_cut : MethodName := ⟨RX9, "cut", "(I)I"⟩
abbrev cX9_repair : ByteArray := prog_1_method_10_code
def yX9_repair : MethodName := ⟨RX9, "repair", "(II)I"⟩
abbrev cX9_end : ByteArray := prog_1_method_11_code
def yX9_end : MethodName := ⟨RX9, "end", "()I"⟩
abbrev cX9_take : ByteArray := prog_1_method_12_code
def yX9_take : MethodName := ⟨RX9, "take", "(I)I"⟩
abbrev cX9_restore : ByteArray := prog_1_method_13_code
def yX9_restore : MethodName := ⟨RX9, "restore", "(I)I"⟩
abbrev cX9_undo : ByteArray := prog_1_method_14_code
def yX9_undo : MethodName := ⟨RX9, "undo", "()I"⟩
abbrev cX9_append : ByteArray := prog_1_method_15_code
def yX9_append : MethodName := ⟨RX9, "append", "(I)I"⟩
abbrev cX9_clearText : ByteArray := prog_1_method_16_code
def yX9_clearText : MethodName := ⟨RX9, "clearText", "()I"⟩
abbrev cX9_carryOut : ByteArray := prog_1_method_17_code
def yX9_carryOut : MethodName := ⟨RX9, "carryOut", "()I"⟩
abbrev cX9_count : ByteArray := prog_1_method_18_code
def yX9_count : MethodName := ⟨RX9, "count", "(I)I"⟩
abbrev cX9_captain : ByteArray := prog_1_method_19_code
def yX9_captain : MethodName := ⟨RX9, "captain", "(II)I"⟩
abbrev cX9_ship : ByteArray := prog_1_method_20_code
def yX9_ship : MethodName := ⟨RX9, "ship", "(II)I"⟩
abbrev cX9_on : ByteArray := prog_1_method_21_code
def yX9_on : MethodName := ⟨RX9, "on", "(I)I"⟩
abbrev cX9_targets : ByteArray := prog_1_method_22_code
def yX9_targets : MethodName := ⟨RX9, "targets", "(II)I"⟩
abbrev cX9_hits : ByteArray := prog_1_method_23_code
def yX9_hits : MethodName := ⟨RX9, "hits", "(III)I"⟩
abbrev cX9_way : ByteArray := prog_1_method_24_code
def yX9_way : MethodName := ⟨RX9, "way", "(III)I"⟩
abbrev cX9_reach : ByteArray := prog_1_method_25_code
def yX9_reach : MethodName := ⟨RX9, "reach", "(I)I"⟩
abbrev cX9_windBy : ByteArray := prog_1_method_26_code
def yX9_windBy : MethodName := ⟨RX9, "windBy", "(II)I"⟩
abbrev cX9_bestCard : ByteArray := prog_1_method_27_code
def yX9_bestCard : MethodName := ⟨RX9, "bestCard", "(III)I"⟩
abbrev cX9_threats : ByteArray := prog_1_method_28_code
def yX9_threats : MethodName := ⟨RX9, "threats", "(I)I"⟩
abbrev cX9_strength : ByteArray := prog_1_method_29_code
def yX9_strength : MethodName := ⟨RX9, "strength", "(I)I"⟩
def RX10 : String := "WindCardShipsModel"
def TX10 : u_T := fun k => match k with
  | 0 => ("WindCardShipsModel", "s", "[I", true)
  | 1 => ("WindCardShipsModel", "before", "[I", true)
  | 2 => ("WindCardShipsModel", "start", "[I", true)
  | 3 => ("WindCardShipsModel", "undoMany", "I", false)
  | 4 => ("WindCardShipsModel", "length", "I", false)
  | 5 => ("WindCardShipsModel", "text", "[I", true)
  | 6 => ("WindCardShipsModel", "runs", "Z", false)
  | 7 => ("WindCardShipsModel", "endHex", "I", false)
  | 8 => ("WindCardShipsModel", "endHeading", "I", false)
  | 9 => ("WindCardShipsModel", "far", "I", false)
  | 10 => ("WindCardShipsModel", "spot", "I", false)
  | 11 => ("WindCardShipsModel", "numbers", "[I", true)
  | _ => ("WindCardShipsModel", "comes", "[Z", true)
def tyX10 : Nat → FieldType := fun k => match k with
  | 0 => .array .int
  | 1 => .array .int
  | 2 => .array .int
  | 3 => .int
  | 4 => .int
  | 5 => .array .int
  | 6 => .boolean
  | 7 => .int
  | 8 => .int
  | 9 => .int
  | 10 => .int
  | 11 => .array .int
  | _ => .array .boolean
abbrev wsX100 : List Cond := u_ws RX10 TX10 13
theorem nmX10 : ∀ a, a < 13 → ∀ b, b < 13 → a ≠ b → (TX10 a).2.1 ≠ (TX10 b).2.1 := by decide +kernel
theorem tyX10_ok : ∀ k, k < 13 → parseFieldDescriptor (TX10 k).2.2.1 = some (tyX10 k) := by decide +kernel
abbrev cX10_init : ByteArray := prog_12_method_1_code
def yX10_init : MethodName := ⟨RX10, "<init>", "()V"⟩
abbrev cX10_in : ByteArray := prog_12_method_2_code
def yX10_in : MethodName := ⟨RX10, "in", "(JJJ)Z"⟩
abbrev cX10_has : ByteArray := prog_12_method_3_code
def yX10_has : MethodName := ⟨RX10, "has", "(II)Z"⟩
abbrev cX10_record : ByteArray := prog_12_method_4_code
def yX10_record : MethodName := ⟨RX10, "record", "()V"⟩
abbrev cX10_act : ByteArray := prog_12_method_5_code
def yX10_act : MethodName := ⟨RX10, "act", "()V"⟩
abbrev cX10_isHex : ByteArray := prog_12_method_6_code
def yX10_isHex : MethodName := ⟨RX10, "isHex", "(I)Z"⟩
abbrev cX10_next : ByteArray := prog_12_method_7_code
def yX10_next : MethodName := ⟨RX10, "next", "(II)I"⟩
abbrev cX10_areBeside : ByteArray := prog_12_method_8_code
def yX10_areBeside : MethodName := ⟨RX10, "areBeside", "(II)Z"⟩
abbrev cX10_get : ByteArray := prog_12_method_9_code
def yX10_get : MethodName := ⟨RX10, "get", "(II)I"⟩
abbrev cX10_put : ByteArray := prog_12_method_10_code
def yX10_put : MethodName := ⟨RX10, "put", "(III)V"⟩
abbrev cX10_isShip : ByteArray := prog_12_method_11_code
def yX10_isShip : MethodName := ⟨RX10, "isShip", "(I)Z"⟩
abbrev cX10_floats : ByteArray := prog_12_method_12_code
def yX10_floats : MethodName := ⟨RX10, "floats", "(I)Z"⟩
abbrev cX10_shipOn : ByteArray := prog_12_method_13_code
def yX10_shipOn : MethodName := ⟨RX10, "shipOn", "(I)I"⟩
abbrev cX10_isFree : ByteArray := prog_12_method_14_code
def yX10_isFree : MethodName := ⟨RX10, "isFree", "(I)Z"⟩
abbrev cX10_isCaptain : ByteArray := prog_12_method_15_code
def yX10_isCaptain : MethodName := ⟨RX10, "isCaptain", "(I)Z"⟩
abbrev cX10_islands : ByteArray := prog_12_method_16_code
def yX10_islands : MethodName := ⟨RX10, "islands", "()I"⟩
abbrev cX10_setIsland : ByteArray := prog_12_method_17_code
def yX10_setIsland : MethodName := ⟨RX10, "setIsland", "(II)I"⟩
abbrev cX10_addShip : ByteArray := prog_12_method_18_code
def yX10_addShip : MethodName := ⟨RX10, "addShip", "(IIIIII)I"⟩
abbrev cX10_setTimber : ByteArray := prog_12_method_19_code
def yX10_setTimber : MethodName := ⟨RX10, "setTimber", "(II)I"⟩
abbrev cX10_toldSet : ByteArray := prog_12_method_20_code
def yX10_toldSet : MethodName := ⟨RX10, "toldSet", "()I"⟩
abbrev cX10_tell : ByteArray := prog_12_method_21_code
def yX10_tell : MethodName := ⟨RX10, "tell", "(II)I"⟩
abbrev cX10_stepsBy : ByteArray := prog_12_method_22_code
def yX10_stepsBy : MethodName := ⟨RX10, "stepsBy", "(III)I"⟩
abbrev cX10_stepsNow : ByteArray := prog_12_method_23_code
def yX10_stepsNow : MethodName := ⟨RX10, "stepsNow", "(I)I"⟩
abbrev cX10_sizeOf : ByteArray := prog_12_method_24_code
def yX10_sizeOf : MethodName := ⟨RX10, "sizeOf", "(I)I"⟩
abbrev cX10_goes : ByteArray := prog_12_method_25_code
def yX10_goes : MethodName := ⟨RX10, "goes", "(III)Z"⟩
abbrev cX10_sail : ByteArray := prog_12_method_26_code
def yX10_sail : MethodName := ⟨RX10, "sail", "(II)I"⟩
abbrev cX10_onLine : ByteArray := prog_12_method_27_code
def yX10_onLine : MethodName := ⟨RX10, "onLine", "(II)I"⟩
abbrev cX10_farBy : ByteArray := prog_12_method_28_code
def yX10_farBy : MethodName := ⟨RX10, "farBy", "(III)I"⟩
abbrev cX10_hitsAt : ByteArray := prog_12_method_29_code
def yX10_hitsAt : MethodName := ⟨RX10, "hitsAt", "(II)I"⟩
abbrev cX10_mayFire : ByteArray := prog_12_method_30_code
def yX10_mayFire : MethodName := ⟨RX10, "mayFire", "(II)Z"⟩
abbrev cX10_lose : ByteArray := prog_12_method_31_code
def yX10_lose : MethodName := ⟨RX10, "lose", "(III)V"⟩
abbrev cX10_free : ByteArray := prog_12_method_32_code
def yX10_free : MethodName := ⟨RX10, "free", "(I)V"⟩
abbrev cX10_areTwo : ByteArray := prog_12_method_33_code
def yX10_areTwo : MethodName := ⟨RX10, "areTwo", "(II)Z"⟩
abbrev cX10_fire : ByteArray := prog_12_method_34_code
def yX10_fire : MethodName := ⟨RX10, "fire", "(III)I"⟩
abbrev cX10_grapple : ByteArray := prog_12_method_35_code
def yX10_grapple : MethodName := ⟨RX10, "grapple", "(II)I"⟩
abbrev cX10_cut : ByteArray := prog_12_method_36_code
def yX10_cut : MethodName := ⟨RX10, "cut", "(I)I"⟩
abbrev cX10_gainOf : ByteArray := prog_12_method_37_code
def yX10_gainOf : MethodName := ⟨RX10, "gainOf", "(II)I"⟩
abbrev cX10_repair : ByteArray := prog_12_method_38_code
def yX10_repair : MethodName := ⟨RX10, "repair", "(II)I"⟩
abbrev cX10_fight : ByteArray := prog_12_method_39_code
def yX10_fight : MethodName := ⟨RX10, "fight", "(II)V"⟩
abbrev cX10_end : ByteArray := prog_12_method_40_code
def yX10_end : MethodName := ⟨RX10, "end", "()I"⟩
abbrev cX10_take : ByteArray := prog_12_method_41_code
def yX10_take : MethodName := ⟨RX10, "take", "(I)I"⟩
abbrev cX10_restore : ByteArray := prog_12_method_42_code
def yX10_restore : MethodName := ⟨RX10, "restore", "(I)I"⟩
abbrev cX10_undo : ByteArray := prog_12_method_43_code
def yX10_undo : MethodName := ⟨RX10, "undo", "()I"⟩
abbrev cX10_append : ByteArray := prog_12_method_44_code
def yX10_append : MethodName := ⟨RX10, "append", "(I)I"⟩
abbrev cX10_clearText : ByteArray := prog_12_method_45_code
def yX10_clearText : MethodName := ⟨RX10, "clearText", "()I"⟩
abbrev cX10_letterAt : ByteArray := prog_12_method_46_code
def yX10_letterAt : MethodName := ⟨RX10, "letterAt", "(I)I"⟩
abbrev cX10_needs : ByteArray := prog_12_method_47_code
def yX10_needs : MethodName := ⟨RX10, "needs", "(I)I"⟩
abbrev cX10_number : ByteArray := prog_12_method_48_code
def yX10_number : MethodName := ⟨RX10, "number", "(I)Z"⟩
abbrev cX10_order : ByteArray := prog_12_method_49_code
def yX10_order : MethodName := ⟨RX10, "order", "()Z"⟩
abbrev cX10_faultAt : ByteArray := prog_12_method_50_code
def yX10_faultAt : MethodName := ⟨RX10, "faultAt", "()I"⟩
abbrev cX10_doOrder : ByteArray := prog_12_method_51_code
def yX10_doOrder : MethodName := ⟨RX10, "doOrder", "(I)I"⟩
abbrev cX10_carryOut : ByteArray := prog_12_method_52_code
def yX10_carryOut : MethodName := ⟨RX10, "carryOut", "()I"⟩
abbrev cX10_letterAtBegin : ByteArray := prog_12_method_53_code
def yX10_letterAtBegin : MethodName := ⟨RX10, "letterAtBegin", "()I"⟩
abbrev cX10_afloat : ByteArray := prog_12_method_54_code
def yX10_afloat : MethodName := ⟨RX10, "afloat", "(I)I"⟩
abbrev cX10_count : ByteArray := prog_12_method_55_code
def yX10_count : MethodName := ⟨RX10, "count", "(I)I"⟩
abbrev cX10_captain : ByteArray := prog_12_method_56_code
def yX10_captain : MethodName := ⟨RX10, "captain", "(II)I"⟩
abbrev cX10_ship : ByteArray := prog_12_method_57_code
def yX10_ship : MethodName := ⟨RX10, "ship", "(II)I"⟩
abbrev cX10_on : ByteArray := prog_12_method_58_code
def yX10_on : MethodName := ⟨RX10, "on", "(I)I"⟩
abbrev cX10_targets : ByteArray := prog_12_method_59_code
def yX10_targets : MethodName := ⟨RX10, "targets", "(II)I"⟩
abbrev cX10_hits : ByteArray := prog_12_method_60_code
def yX10_hits : MethodName := ⟨RX10, "hits", "(III)I"⟩
abbrev cX10_pathBehind : ByteArray := prog_12_method_61_code
def yX10_pathBehind : MethodName := ⟨RX10, "pathBehind", "(I)I"⟩
abbrev cX10_pathTo : ByteArray := prog_12_method_62_code
def yX10_pathTo : MethodName := ⟨RX10, "pathTo", "(III)I"⟩
abbrev cX10_way : ByteArray := prog_12_method_63_code
def yX10_way : MethodName := ⟨RX10, "way", "(III)I"⟩
abbrev cX10_reach : ByteArray := prog_12_method_64_code
def yX10_reach : MethodName := ⟨RX10, "reach", "(I)I"⟩
abbrev cX10_windBy : ByteArray := prog_12_method_65_code
def yX10_windBy : MethodName := ⟨RX10, "windBy", "(II)I"⟩
abbrev cX10_cardsFor : ByteArray := prog_12_method_66_code
def yX10_cardsFor : MethodName := ⟨RX10, "cardsFor", "(III)I"⟩
abbrev cX10_bestCard : ByteArray := prog_12_method_67_code
def yX10_bestCard : MethodName := ⟨RX10, "bestCard", "(III)I"⟩
abbrev cX10_threats : ByteArray := prog_12_method_68_code
def yX10_threats : MethodName := ⟨RX10, "threats", "(I)I"⟩
abbrev cX10_strength : ByteArray := prog_12_method_69_code
def yX10_strength : MethodName := ⟨RX10, "strength", "(I)I"⟩
def RJ6 : String := "java/lang/Integer"
def TJ6 : u_T := fun k => match k with
  | _ => ("", "", "", false)
def tyJ6 : Nat → FieldType := fun k => match k with
  | _ => .int
abbrev wsJ60 : List Cond := u_ws RJ6 TJ6 0
theorem nmJ6 : ∀ a, a < 0 → ∀ b, b < 0 → a ≠ b → (TJ6 a).2.1 ≠ (TJ6 b).2.1 := by decide +kernel
theorem tyJ6_ok : ∀ k, k < 0 → parseFieldDescriptor (TJ6 k).2.2.1 = some (tyJ6 k) := by decide +kernel
abbrev cJ6_bitCount_0f7a4 : ByteArray := prog_13_method_49_code
def yJ6_bitCount_0f7a4 : MethodName := ⟨RJ6, "bitCount", "(I)I"⟩
def RJ9 : String := "java/lang/Math"
def TJ9 : u_T := fun k => match k with
  | _ => ("", "", "", false)
def tyJ9 : Nat → FieldType := fun k => match k with
  | _ => .int
abbrev wsJ90 : List Cond := u_ws RJ9 TJ9 0
theorem nmJ9 : ∀ a, a < 0 → ∀ b, b < 0 → a ≠ b → (TJ9 a).2.1 ≠ (TJ9 b).2.1 := by decide +kernel
theorem tyJ9_ok : ∀ k, k < 0 → parseFieldDescriptor (TJ9 k).2.2.1 = some (tyJ9 k) := by decide +kernel
abbrev cJ9_max_7cf53 : ByteArray := prog_14_method_65_code
def yJ9_max_7cf53 : MethodName := ⟨RJ9, "max", "(II)I"⟩
abbrev cJ9_min_7cf53 : ByteArray := prog_14_method_69_code
def yJ9_min_7cf53 : MethodName := ⟨RJ9, "min", "(II)I"⟩
def RJ10 : String := "java/lang/System"
def TJ10 : u_T := fun k => match k with
  | _ => ("", "", "", false)
def tyJ10 : Nat → FieldType := fun k => match k with
  | _ => .int
abbrev wsJ100 : List Cond := u_ws RJ10 TJ10 0
theorem nmJ10 : ∀ a, a < 0 → ∀ b, b < 0 → a ≠ b → (TJ10 a).2.1 ≠ (TJ10 b).2.1 := by decide +kernel
theorem tyJ10_ok : ∀ k, k < 0 → parseFieldDescriptor (TJ10 k).2.2.1 = some (tyJ10 k) := by decide +kernel
def RJ7 : String := "java/util/Arrays"
def TJ7 : u_T := fun k => match k with
  | _ => ("", "", "", false)
def tyJ7 : Nat → FieldType := fun k => match k with
  | _ => .int
abbrev wsJ70 : List Cond := u_ws RJ7 TJ7 0
theorem nmJ7 : ∀ a, a < 0 → ∀ b, b < 0 → a ≠ b → (TJ7 a).2.1 ≠ (TJ7 b).2.1 := by decide +kernel
theorem tyJ7_ok : ∀ k, k < 0 → parseFieldDescriptor (TJ7 k).2.2.1 = some (tyJ7 k) := by decide +kernel
abbrev cJ7_fill_53178 : ByteArray := prog_16_method_103_code
def yJ7_fill_53178 : MethodName := ⟨RJ7, "fill", "([II)V"⟩
def RL : String := "WindCardShipsLaw"
abbrev cL_law : ByteArray := code
def yL_law : MethodName := ⟨RL, "law", "([I)Z"⟩
abbrev vwCl : List vw_C := [(RX0, TX0, 3), (RX1, TX1, 10), (RX3, TX3, 3), (RX4, TX4, 7), (RX6, TX6, 4), (RX7, TX7, 12), (RX8, TX8, 4), (RX9, TX9, 4), (RX10, TX10, 13)]
end
section
def WSa : List Cond := lw_tbl.filter goodWord
theorem wsa_i (i : Nat) (w : Cond) (h : lw_tbl[i]? = some w) (g : goodWord w = true) : w ∈ WSa := List.mem_filter.mpr ⟨List.mem_of_getElem? h, g⟩
theorem wsa_ok {args : Array Value} {s : State} (h : ∀ w ∈ lw_tbl, w.before args s = true) : ∀ w ∈ WSa, w.before args s = true := fun w hw => h w (List.mem_filter.mp hw).1
theorem wsa_good {big : List Cond} (h : ∀ w ∈ WSa, w ∈ big) : GoodIn big WSa := fun w hw => ⟨h w hw, good_of_word (List.mem_filter.mp hw).2⟩
theorem kw0 : Jvm.Cond.selects "WindCardShips$Game" ({ cls := "WindCardShips$Game", name := "shipOn", desc := "(I)LWindCardShips$Ship;" } : Jvm.MethodName) ({ cls := "WindCardShips$Game", name := "shipOn", desc := "(I)LWindCardShips$Ship;" } : Jvm.MethodName) ∈ WSa := wsa_i 0 _ (by decide +kernel) (by decide +kernel)
theorem kw1 : Jvm.Cond.selects "WindCardShips$Game" ({ cls := "WindCardShips$Game", name := "islandCount", desc := "()I" } : Jvm.MethodName) ({ cls := "WindCardShips$Game", name := "islandCount", desc := "()I" } : Jvm.MethodName) ∈ WSa := wsa_i 1 _ (by decide +kernel) (by decide +kernel)
theorem kw2 : Jvm.Cond.selects "WindCardShips$Game" ({ cls := "WindCardShips$Game", name := "isFree", desc := "(I)Z" } : Jvm.MethodName) ({ cls := "WindCardShips$Game", name := "isFree", desc := "(I)Z" } : Jvm.MethodName) ∈ WSa := wsa_i 2 _ (by decide +kernel) (by decide +kernel)
theorem kw3 : Jvm.Cond.selects "WindCardShips$Game" ({ cls := "WindCardShips$Game", name := "isIsland", desc := "(I)Z" } : Jvm.MethodName) ({ cls := "WindCardShips$Game", name := "isIsland", desc := "(I)Z" } : Jvm.MethodName) ∈ WSa := wsa_i 3 _ (by decide +kernel) (by decide +kernel)
theorem kw4 : Jvm.Cond.selects "WindCardShips$Game" ({ cls := "WindCardShips$Game", name := "captainOf", desc := "(I)LWindCardShips$Captain;" } : Jvm.MethodName) ({ cls := "WindCardShips$Game", name := "captainOf", desc := "(I)LWindCardShips$Captain;" } : Jvm.MethodName) ∈ WSa := wsa_i 4 _ (by decide +kernel) (by decide +kernel)
theorem kw5 : Jvm.Cond.selects "WindCardShips$Game" ({ cls := "WindCardShips$Game", name := "beginMoves", desc := "()V" } : Jvm.MethodName) ({ cls := "WindCardShips$Game", name := "beginMoves", desc := "()V" } : Jvm.MethodName) ∈ WSa := wsa_i 5 _ (by decide +kernel) (by decide +kernel)
theorem kw6 : Jvm.Cond.selects "WindCardShips$Game" ({ cls := "WindCardShips$Game", name := "toldSet", desc := "()I" } : Jvm.MethodName) ({ cls := "WindCardShips$Game", name := "toldSet", desc := "()I" } : Jvm.MethodName) ∈ WSa := wsa_i 6 _ (by decide +kernel) (by decide +kernel)
theorem kw7 : Jvm.Cond.selects "WindCardShips$Ship" ({ cls := "WindCardShips$Ship", name := "speedFactor", desc := "(I)I" } : Jvm.MethodName) ({ cls := "WindCardShips$Ship", name := "speedFactor", desc := "(I)I" } : Jvm.MethodName) ∈ WSa := wsa_i 7 _ (by decide +kernel) (by decide +kernel)
theorem kw8 : Jvm.Cond.selects "WindCardShips$Game" ({ cls := "WindCardShips$Game", name := "distanceAlong", desc := "(IILWindCardShips$Ship;)I" } : Jvm.MethodName) ({ cls := "WindCardShips$Game", name := "distanceAlong", desc := "(IILWindCardShips$Ship;)I" } : Jvm.MethodName) ∈ WSa := wsa_i 8 _ (by decide +kernel) (by decide +kernel)
theorem kw9 : Jvm.Cond.selects "WindCardShips$Game" ({ cls := "WindCardShips$Game", name := "release", desc := "(LWindCardShips$Ship;)V" } : Jvm.MethodName) ({ cls := "WindCardShips$Game", name := "release", desc := "(LWindCardShips$Ship;)V" } : Jvm.MethodName) ∈ WSa := wsa_i 9 _ (by decide +kernel) (by decide +kernel)
theorem kw10 : Jvm.Cond.selects "WindCardShips$Game" ({ cls := "WindCardShips$Game", name := "fight", desc := "(LWindCardShips$Ship;LWindCardShips$Ship;)V" } : Jvm.MethodName) ({ cls := "WindCardShips$Game", name := "fight", desc := "(LWindCardShips$Ship;LWindCardShips$Ship;)V" } : Jvm.MethodName) ∈ WSa := wsa_i 10 _ (by decide +kernel) (by decide +kernel)
theorem kw11 : Jvm.Cond.selects "WindCardShips$Game" ({ cls := "WindCardShips$Game", name := "capture", desc := "(LWindCardShips$Ship;LWindCardShips$Ship;)V" } : Jvm.MethodName) ({ cls := "WindCardShips$Game", name := "capture", desc := "(LWindCardShips$Ship;LWindCardShips$Ship;)V" } : Jvm.MethodName) ∈ WSa := wsa_i 11 _ (by decide +kernel) (by decide +kernel)
theorem kw12 : Jvm.Cond.selects "WindCardShips$State" ({ cls := "WindCardShips$State", name := "slotOf", desc := "(I)LWindCardShips$Game;" } : Jvm.MethodName) ({ cls := "WindCardShips$State", name := "slotOf", desc := "(I)LWindCardShips$Game;" } : Jvm.MethodName) ∈ WSa := wsa_i 12 _ (by decide +kernel) (by decide +kernel)
theorem kw13 : Jvm.Cond.selects "WindCardShips$Orders" ({ cls := "WindCardShips$Orders", name := "signAt", desc := "(I)I" } : Jvm.MethodName) ({ cls := "WindCardShips$Orders", name := "signAt", desc := "(I)I" } : Jvm.MethodName) ∈ WSa := wsa_i 13 _ (by decide +kernel) (by decide +kernel)
theorem kw14 : Jvm.Cond.selects "WindCardShips$Orders" ({ cls := "WindCardShips$Orders", name := "readSign", desc := "(I)Z" } : Jvm.MethodName) ({ cls := "WindCardShips$Orders", name := "readSign", desc := "(I)Z" } : Jvm.MethodName) ∈ WSa := wsa_i 14 _ (by decide +kernel) (by decide +kernel)
theorem kw15 : Jvm.Cond.selects "WindCardShips$Orders" ({ cls := "WindCardShips$Orders", name := "readNumber", desc := "()I" } : Jvm.MethodName) ({ cls := "WindCardShips$Orders", name := "readNumber", desc := "()I" } : Jvm.MethodName) ∈ WSa := wsa_i 15 _ (by decide +kernel) (by decide +kernel)
theorem kw16 : Jvm.Cond.selects "WindCardShips$Orders" ({ cls := "WindCardShips$Orders", name := "keepNumber", desc := "(II)V" } : Jvm.MethodName) ({ cls := "WindCardShips$Orders", name := "keepNumber", desc := "(II)V" } : Jvm.MethodName) ∈ WSa := wsa_i 16 _ (by decide +kernel) (by decide +kernel)
theorem kw17 : Jvm.Cond.selects "WindCardShips$Game" ({ cls := "WindCardShips$Game", name := "fleetOf", desc := "(I)I" } : Jvm.MethodName) ({ cls := "WindCardShips$Game", name := "fleetOf", desc := "(I)I" } : Jvm.MethodName) ∈ WSa := wsa_i 17 _ (by decide +kernel) (by decide +kernel)
theorem kw18 : Jvm.Cond.selects "WindCardShips$Game" ({ cls := "WindCardShips$Game", name := "hullsOf", desc := "(I)I" } : Jvm.MethodName) ({ cls := "WindCardShips$Game", name := "hullsOf", desc := "(I)I" } : Jvm.MethodName) ∈ WSa := wsa_i 18 _ (by decide +kernel) (by decide +kernel)
theorem kw19 : Jvm.Cond.selects "WindCardShips$Routes" ({ cls := "WindCardShips$Routes", name := "note", desc := "(III)V" } : Jvm.MethodName) ({ cls := "WindCardShips$Routes", name := "note", desc := "(III)V" } : Jvm.MethodName) ∈ WSa := wsa_i 19 _ (by decide +kernel) (by decide +kernel)
theorem kw20 : Jvm.Cond.selects "WindCardShips$Routes" ({ cls := "WindCardShips$Routes", name := "spread", desc := "(LWindCardShips$Game;LWindCardShips$Ship;II)V" } : Jvm.MethodName) ({ cls := "WindCardShips$Routes", name := "spread", desc := "(LWindCardShips$Game;LWindCardShips$Ship;II)V" } : Jvm.MethodName) ∈ WSa := wsa_i 20 _ (by decide +kernel) (by decide +kernel)
theorem kw21 : Jvm.Cond.selects "WindCardShips$Routes" ({ cls := "WindCardShips$Routes", name := "bestPath", desc := "(I)I" } : Jvm.MethodName) ({ cls := "WindCardShips$Routes", name := "bestPath", desc := "(I)I" } : Jvm.MethodName) ∈ WSa := wsa_i 21 _ (by decide +kernel) (by decide +kernel)
theorem kw22 : Jvm.Cond.selects "WindCardShips$Routes" ({ cls := "WindCardShips$Routes", name := "headingAt", desc := "(I)I" } : Jvm.MethodName) ({ cls := "WindCardShips$Routes", name := "headingAt", desc := "(I)I" } : Jvm.MethodName) ∈ WSa := wsa_i 22 _ (by decide +kernel) (by decide +kernel)
theorem kw23 : Jvm.Cond.selects "WindCardShips$Game" ({ cls := "WindCardShips$Game", name := "cardsThatHelp", desc := "(LWindCardShips$Ship;ILWindCardShips$Captain;I)I" } : Jvm.MethodName) ({ cls := "WindCardShips$Game", name := "cardsThatHelp", desc := "(LWindCardShips$Ship;ILWindCardShips$Captain;I)I" } : Jvm.MethodName) ∈ WSa := wsa_i 23 _ (by decide +kernel) (by decide +kernel)
theorem kw24 : Jvm.Cond.selects "WindCardShipsModel" ({ cls := "WindCardShipsModel", name := "shipOn", desc := "(I)I" } : Jvm.MethodName) ({ cls := "WindCardShipsModel", name := "shipOn", desc := "(I)I" } : Jvm.MethodName) ∈ WSa := wsa_i 24 _ (by decide +kernel) (by decide +kernel)
theorem kw25 : Jvm.Cond.selects "WindCardShipsModel" ({ cls := "WindCardShipsModel", name := "get", desc := "(II)I" } : Jvm.MethodName) ({ cls := "WindCardShipsModel", name := "get", desc := "(II)I" } : Jvm.MethodName) ∈ WSa := wsa_i 25 _ (by decide +kernel) (by decide +kernel)
theorem kw26 : Jvm.Cond.selects "WindCardShipsModel" ({ cls := "WindCardShipsModel", name := "act", desc := "()V" } : Jvm.MethodName) ({ cls := "WindCardShipsModel", name := "act", desc := "()V" } : Jvm.MethodName) ∈ WSa := wsa_i 26 _ (by decide +kernel) (by decide +kernel)
theorem kw27 : Jvm.Cond.selects "WindCardShipsModel" ({ cls := "WindCardShipsModel", name := "record", desc := "()V" } : Jvm.MethodName) ({ cls := "WindCardShipsModel", name := "record", desc := "()V" } : Jvm.MethodName) ∈ WSa := wsa_i 27 _ (by decide +kernel) (by decide +kernel)
theorem kw28 : Jvm.Cond.selects "WindCardShipsModel" ({ cls := "WindCardShipsModel", name := "islands", desc := "()I" } : Jvm.MethodName) ({ cls := "WindCardShipsModel", name := "islands", desc := "()I" } : Jvm.MethodName) ∈ WSa := wsa_i 28 _ (by decide +kernel) (by decide +kernel)
theorem kw29 : Jvm.Cond.selects "WindCardShipsModel" ({ cls := "WindCardShipsModel", name := "isFree", desc := "(I)Z" } : Jvm.MethodName) ({ cls := "WindCardShipsModel", name := "isFree", desc := "(I)Z" } : Jvm.MethodName) ∈ WSa := wsa_i 29 _ (by decide +kernel) (by decide +kernel)
theorem kw30 : Jvm.Cond.selects "WindCardShipsModel" ({ cls := "WindCardShipsModel", name := "put", desc := "(III)V" } : Jvm.MethodName) ({ cls := "WindCardShipsModel", name := "put", desc := "(III)V" } : Jvm.MethodName) ∈ WSa := wsa_i 30 _ (by decide +kernel) (by decide +kernel)
theorem kw31 : Jvm.Cond.selects "WindCardShipsModel" ({ cls := "WindCardShipsModel", name := "toldSet", desc := "()I" } : Jvm.MethodName) ({ cls := "WindCardShipsModel", name := "toldSet", desc := "()I" } : Jvm.MethodName) ∈ WSa := wsa_i 31 _ (by decide +kernel) (by decide +kernel)
theorem kw32 : Jvm.Cond.selects "WindCardShipsModel" ({ cls := "WindCardShipsModel", name := "isShip", desc := "(I)Z" } : Jvm.MethodName) ({ cls := "WindCardShipsModel", name := "isShip", desc := "(I)Z" } : Jvm.MethodName) ∈ WSa := wsa_i 32 _ (by decide +kernel) (by decide +kernel)
theorem kw33 : Jvm.Cond.selects "WindCardShipsModel" ({ cls := "WindCardShipsModel", name := "floats", desc := "(I)Z" } : Jvm.MethodName) ({ cls := "WindCardShipsModel", name := "floats", desc := "(I)Z" } : Jvm.MethodName) ∈ WSa := wsa_i 33 _ (by decide +kernel) (by decide +kernel)
theorem kw34 : Jvm.Cond.selects "WindCardShipsModel" ({ cls := "WindCardShipsModel", name := "stepsNow", desc := "(I)I" } : Jvm.MethodName) ({ cls := "WindCardShipsModel", name := "stepsNow", desc := "(I)I" } : Jvm.MethodName) ∈ WSa := wsa_i 34 _ (by decide +kernel) (by decide +kernel)
theorem kw35 : Jvm.Cond.selects "WindCardShipsModel" ({ cls := "WindCardShipsModel", name := "stepsBy", desc := "(III)I" } : Jvm.MethodName) ({ cls := "WindCardShipsModel", name := "stepsBy", desc := "(III)I" } : Jvm.MethodName) ∈ WSa := wsa_i 35 _ (by decide +kernel) (by decide +kernel)
theorem kw36 : Jvm.Cond.selects "WindCardShipsModel" ({ cls := "WindCardShipsModel", name := "goes", desc := "(III)Z" } : Jvm.MethodName) ({ cls := "WindCardShipsModel", name := "goes", desc := "(III)Z" } : Jvm.MethodName) ∈ WSa := wsa_i 36 _ (by decide +kernel) (by decide +kernel)
theorem kw37 : Jvm.Cond.selects "WindCardShipsModel" ({ cls := "WindCardShipsModel", name := "areTwo", desc := "(II)Z" } : Jvm.MethodName) ({ cls := "WindCardShipsModel", name := "areTwo", desc := "(II)Z" } : Jvm.MethodName) ∈ WSa := wsa_i 37 _ (by decide +kernel) (by decide +kernel)
theorem kw38 : Jvm.Cond.selects "WindCardShipsModel" ({ cls := "WindCardShipsModel", name := "farBy", desc := "(III)I" } : Jvm.MethodName) ({ cls := "WindCardShipsModel", name := "farBy", desc := "(III)I" } : Jvm.MethodName) ∈ WSa := wsa_i 38 _ (by decide +kernel) (by decide +kernel)
theorem kw39 : Jvm.Cond.selects "WindCardShipsModel" ({ cls := "WindCardShipsModel", name := "onLine", desc := "(II)I" } : Jvm.MethodName) ({ cls := "WindCardShipsModel", name := "onLine", desc := "(II)I" } : Jvm.MethodName) ∈ WSa := wsa_i 39 _ (by decide +kernel) (by decide +kernel)
theorem kw40 : Jvm.Cond.selects "WindCardShipsModel" ({ cls := "WindCardShipsModel", name := "mayFire", desc := "(II)Z" } : Jvm.MethodName) ({ cls := "WindCardShipsModel", name := "mayFire", desc := "(II)Z" } : Jvm.MethodName) ∈ WSa := wsa_i 40 _ (by decide +kernel) (by decide +kernel)
theorem kw41 : Jvm.Cond.selects "WindCardShipsModel" ({ cls := "WindCardShipsModel", name := "hitsAt", desc := "(II)I" } : Jvm.MethodName) ({ cls := "WindCardShipsModel", name := "hitsAt", desc := "(II)I" } : Jvm.MethodName) ∈ WSa := wsa_i 41 _ (by decide +kernel) (by decide +kernel)
theorem kw42 : Jvm.Cond.selects "WindCardShipsModel" ({ cls := "WindCardShipsModel", name := "lose", desc := "(III)V" } : Jvm.MethodName) ({ cls := "WindCardShipsModel", name := "lose", desc := "(III)V" } : Jvm.MethodName) ∈ WSa := wsa_i 42 _ (by decide +kernel) (by decide +kernel)
theorem kw43 : Jvm.Cond.selects "WindCardShipsModel" ({ cls := "WindCardShipsModel", name := "free", desc := "(I)V" } : Jvm.MethodName) ({ cls := "WindCardShipsModel", name := "free", desc := "(I)V" } : Jvm.MethodName) ∈ WSa := wsa_i 43 _ (by decide +kernel) (by decide +kernel)
theorem kw44 : Jvm.Cond.selects "WindCardShipsModel" ({ cls := "WindCardShipsModel", name := "gainOf", desc := "(II)I" } : Jvm.MethodName) ({ cls := "WindCardShipsModel", name := "gainOf", desc := "(II)I" } : Jvm.MethodName) ∈ WSa := wsa_i 44 _ (by decide +kernel) (by decide +kernel)
theorem kw45 : Jvm.Cond.selects "WindCardShipsModel" ({ cls := "WindCardShipsModel", name := "fight", desc := "(II)V" } : Jvm.MethodName) ({ cls := "WindCardShipsModel", name := "fight", desc := "(II)V" } : Jvm.MethodName) ∈ WSa := wsa_i 45 _ (by decide +kernel) (by decide +kernel)
theorem kw46 : Jvm.Cond.selects "WindCardShipsModel" ({ cls := "WindCardShipsModel", name := "faultAt", desc := "()I" } : Jvm.MethodName) ({ cls := "WindCardShipsModel", name := "faultAt", desc := "()I" } : Jvm.MethodName) ∈ WSa := wsa_i 46 _ (by decide +kernel) (by decide +kernel)
theorem kw47 : Jvm.Cond.selects "WindCardShipsModel" ({ cls := "WindCardShipsModel", name := "order", desc := "()Z" } : Jvm.MethodName) ({ cls := "WindCardShipsModel", name := "order", desc := "()Z" } : Jvm.MethodName) ∈ WSa := wsa_i 47 _ (by decide +kernel) (by decide +kernel)
theorem kw48 : Jvm.Cond.selects "WindCardShipsModel" ({ cls := "WindCardShipsModel", name := "letterAt", desc := "(I)I" } : Jvm.MethodName) ({ cls := "WindCardShipsModel", name := "letterAt", desc := "(I)I" } : Jvm.MethodName) ∈ WSa := wsa_i 48 _ (by decide +kernel) (by decide +kernel)
theorem kw49 : Jvm.Cond.selects "WindCardShipsModel" ({ cls := "WindCardShipsModel", name := "number", desc := "(I)Z" } : Jvm.MethodName) ({ cls := "WindCardShipsModel", name := "number", desc := "(I)Z" } : Jvm.MethodName) ∈ WSa := wsa_i 49 _ (by decide +kernel) (by decide +kernel)
theorem kw50 : Jvm.Cond.selects "WindCardShipsModel" ({ cls := "WindCardShipsModel", name := "letterAtBegin", desc := "()I" } : Jvm.MethodName) ({ cls := "WindCardShipsModel", name := "letterAtBegin", desc := "()I" } : Jvm.MethodName) ∈ WSa := wsa_i 50 _ (by decide +kernel) (by decide +kernel)
theorem kw51 : Jvm.Cond.selects "WindCardShipsModel" ({ cls := "WindCardShipsModel", name := "doOrder", desc := "(I)I" } : Jvm.MethodName) ({ cls := "WindCardShipsModel", name := "doOrder", desc := "(I)I" } : Jvm.MethodName) ∈ WSa := wsa_i 51 _ (by decide +kernel) (by decide +kernel)
theorem kw52 : Jvm.Cond.selects "WindCardShipsModel" ({ cls := "WindCardShipsModel", name := "afloat", desc := "(I)I" } : Jvm.MethodName) ({ cls := "WindCardShipsModel", name := "afloat", desc := "(I)I" } : Jvm.MethodName) ∈ WSa := wsa_i 52 _ (by decide +kernel) (by decide +kernel)
theorem kw53 : Jvm.Cond.selects "WindCardShipsModel" ({ cls := "WindCardShipsModel", name := "pathTo", desc := "(III)I" } : Jvm.MethodName) ({ cls := "WindCardShipsModel", name := "pathTo", desc := "(III)I" } : Jvm.MethodName) ∈ WSa := wsa_i 53 _ (by decide +kernel) (by decide +kernel)
theorem kw54 : Jvm.Cond.selects "WindCardShipsModel" ({ cls := "WindCardShipsModel", name := "cardsFor", desc := "(III)I" } : Jvm.MethodName) ({ cls := "WindCardShipsModel", name := "cardsFor", desc := "(III)I" } : Jvm.MethodName) ∈ WSa := wsa_i 54 _ (by decide +kernel) (by decide +kernel)
theorem kw55 : Jvm.Cond.initialized "WindCardShipsLaw" ∈ WSa := wsa_i 55 _ (by decide +kernel) (by decide +kernel)
theorem kw56 : Jvm.Cond.initialized "WindCardShips" ∈ WSa := wsa_i 56 _ (by decide +kernel) (by decide +kernel)
theorem kw57 : Jvm.Cond.initialized "WindCardShips$State" ∈ WSa := wsa_i 57 _ (by decide +kernel) (by decide +kernel)
theorem kw58 : Jvm.Cond.initialized "WindCardShips$Game" ∈ WSa := wsa_i 58 _ (by decide +kernel) (by decide +kernel)
theorem kw59 : Jvm.Cond.initialized "WindCardShips$Captain" ∈ WSa := wsa_i 59 _ (by decide +kernel) (by decide +kernel)
theorem kw60 : Jvm.Cond.initialized "WindCardShips$Ship" ∈ WSa := wsa_i 60 _ (by decide +kernel) (by decide +kernel)
theorem kw61 : Jvm.Cond.initialized "WindCardShips$History" ∈ WSa := wsa_i 61 _ (by decide +kernel) (by decide +kernel)
theorem kw62 : Jvm.Cond.initialized "WindCardShips$Orders" ∈ WSa := wsa_i 62 _ (by decide +kernel) (by decide +kernel)
theorem kw63 : Jvm.Cond.initialized "WindCardShips$Routes" ∈ WSa := wsa_i 63 _ (by decide +kernel) (by decide +kernel)
theorem kw64 : Jvm.Cond.initialized "WindCardShipsModel" ∈ WSa := wsa_i 64 _ (by decide +kernel) (by decide +kernel)
theorem kw65 : Jvm.Cond.initialized "java/lang/System" ∈ WSa := wsa_i 65 _ (by decide +kernel) (by decide +kernel)
theorem kw66 : Jvm.Cond.initialized "WindCardShips$Hexes" ∈ WSa := wsa_i 66 _ (by decide +kernel) (by decide +kernel)
theorem kw67 : Jvm.Cond.initialized "java/lang/Math" ∈ WSa := wsa_i 67 _ (by decide +kernel) (by decide +kernel)
theorem kw68 : Jvm.Cond.initialized "WindCardShips$Path" ∈ WSa := wsa_i 68 _ (by decide +kernel) (by decide +kernel)
theorem kw69 : Jvm.Cond.initialized "java/lang/Integer" ∈ WSa := wsa_i 69 _ (by decide +kernel) (by decide +kernel)
theorem kw70 : Jvm.Cond.initialized "java/util/Arrays" ∈ WSa := wsa_i 70 _ (by decide +kernel) (by decide +kernel)
theorem kw71 : Jvm.Cond.classLink "WindCardShipsLaw" (7 : Nat) "WindCardShips" ∈ WSa := wsa_i 71 _ (by decide +kernel) (by decide +kernel)
theorem kw72 : Jvm.Cond.instantiable "WindCardShips" (4 : Nat) ∈ WSa := wsa_i 72 _ (by decide +kernel) (by decide +kernel)
theorem kw73 : Jvm.Cond.methodLink "WindCardShipsLaw" (9 : Nat) ({ cls := "WindCardShips", name := "<init>", desc := "()V" } : Jvm.MethodName) ∈ WSa := wsa_i 73 _ (by decide +kernel) (by decide +kernel)
theorem kw74 : Jvm.Cond.instanceMethod ({ cls := "WindCardShips", name := "<init>", desc := "()V" } : Jvm.MethodName) ∈ WSa := wsa_i 74 _ (by decide +kernel) (by decide +kernel)
theorem kw75 : Jvm.Cond.code ({ cls := "WindCardShips", name := "<init>", desc := "()V" } : Jvm.MethodName) prog_1_method_1_code (1 : Nat) (Option.none : Option Jvm.ClassFile.FieldType) ∈ WSa := wsa_i 75 _ (by decide +kernel) (by decide +kernel)
theorem kw76 : Jvm.Cond.methodLink "WindCardShips" (1 : Nat) ({ cls := "java/lang/Object", name := "<init>", desc := "()V" } : Jvm.MethodName) ∈ WSa := wsa_i 76 _ (by decide +kernel) (by decide +kernel)
theorem kw77 : Jvm.Cond.instanceMethod ({ cls := "java/lang/Object", name := "<init>", desc := "()V" } : Jvm.MethodName) ∈ WSa := wsa_i 77 _ (by decide +kernel) (by decide +kernel)
theorem kw78 : Jvm.Cond.code ({ cls := "java/lang/Object", name := "<init>", desc := "()V" } : Jvm.MethodName) object_method_1_code (1 : Nat) (Option.none : Option Jvm.ClassFile.FieldType) ∈ WSa := wsa_i 78 _ (by decide +kernel) (by decide +kernel)
theorem kw79 : Jvm.Cond.classLink "WindCardShips" (7 : Nat) "WindCardShips$State" ∈ WSa := wsa_i 79 _ (by decide +kernel) (by decide +kernel)
theorem kw80 : Jvm.Cond.instantiable "WindCardShips$State" (4 : Nat) ∈ WSa := wsa_i 80 _ (by decide +kernel) (by decide +kernel)
theorem kw82 : Jvm.Cond.instanceMethod ({ cls := "WindCardShips$State", name := "<init>", desc := "()V" } : Jvm.MethodName) ∈ WSa := wsa_i 82 _ (by decide +kernel) (by decide +kernel)
theorem kw83 : Jvm.Cond.code ({ cls := "WindCardShips$State", name := "<init>", desc := "()V" } : Jvm.MethodName) prog_10_method_1_code (1 : Nat) (Option.none : Option Jvm.ClassFile.FieldType) ∈ WSa := wsa_i 83 _ (by decide +kernel) (by decide +kernel)
theorem kw84 : Jvm.Cond.methodLink "WindCardShips$State" (3 : Nat) ({ cls := "java/lang/Object", name := "<init>", desc := "()V" } : Jvm.MethodName) ∈ WSa := wsa_i 84 _ (by decide +kernel) (by decide +kernel)
theorem kw85 : Jvm.Cond.classLink "WindCardShips$State" (9 : Nat) "WindCardShips$Game" ∈ WSa := wsa_i 85 _ (by decide +kernel) (by decide +kernel)
theorem kw86 : Jvm.Cond.instantiable "WindCardShips$Game" (10 : Nat) ∈ WSa := wsa_i 86 _ (by decide +kernel) (by decide +kernel)
theorem kw87 : Jvm.Cond.methodLink "WindCardShips$State" (11 : Nat) ({ cls := "WindCardShips$Game", name := "<init>", desc := "()V" } : Jvm.MethodName) ∈ WSa := wsa_i 87 _ (by decide +kernel) (by decide +kernel)
theorem kw88 : Jvm.Cond.instanceMethod ({ cls := "WindCardShips$Game", name := "<init>", desc := "()V" } : Jvm.MethodName) ∈ WSa := wsa_i 88 _ (by decide +kernel) (by decide +kernel)
theorem kw89 : Jvm.Cond.code ({ cls := "WindCardShips$Game", name := "<init>", desc := "()V" } : Jvm.MethodName) prog_3_method_1_code (2 : Nat) (Option.none : Option Jvm.ClassFile.FieldType) ∈ WSa := wsa_i 89 _ (by decide +kernel) (by decide +kernel)
theorem kw90 : Jvm.Cond.methodLink "WindCardShips$Game" (3 : Nat) ({ cls := "java/lang/Object", name := "<init>", desc := "()V" } : Jvm.MethodName) ∈ WSa := wsa_i 90 _ (by decide +kernel) (by decide +kernel)
theorem kw91 : Jvm.Cond.classLink "WindCardShips$Game" (15 : Nat) "WindCardShips$Captain" ∈ WSa := wsa_i 91 _ (by decide +kernel) (by decide +kernel)
theorem kw92 : Jvm.Cond.instantiable "WindCardShips$Captain" (3 : Nat) ∈ WSa := wsa_i 92 _ (by decide +kernel) (by decide +kernel)
theorem kw94 : Jvm.Cond.instanceMethod ({ cls := "WindCardShips$Captain", name := "<init>", desc := "()V" } : Jvm.MethodName) ∈ WSa := wsa_i 94 _ (by decide +kernel) (by decide +kernel)
theorem kw95 : Jvm.Cond.code ({ cls := "WindCardShips$Captain", name := "<init>", desc := "()V" } : Jvm.MethodName) prog_2_method_1_code (1 : Nat) (Option.none : Option Jvm.ClassFile.FieldType) ∈ WSa := wsa_i 95 _ (by decide +kernel) (by decide +kernel)
theorem kw96 : Jvm.Cond.methodLink "WindCardShips$Captain" (3 : Nat) ({ cls := "java/lang/Object", name := "<init>", desc := "()V" } : Jvm.MethodName) ∈ WSa := wsa_i 96 _ (by decide +kernel) (by decide +kernel)
theorem kw97 : Jvm.Cond.fieldLink "WindCardShips$Captain" (11 : Nat) "WindCardShips$Captain" "hand" "I" ∈ WSa := wsa_i 97 _ (by decide +kernel) (by decide +kernel)
theorem kw98 : Jvm.Cond.fieldLink "WindCardShips$Game" (247 : Nat) "WindCardShips$Captain" "hand" "I" ∈ WSa := wsa_i 98 _ (by decide +kernel) (by decide +kernel)
theorem kw99 : Jvm.Cond.fieldLink "WindCardShips$Captain" (15 : Nat) "WindCardShips$Captain" "card" "I" ∈ WSa := wsa_i 99 _ (by decide +kernel) (by decide +kernel)
theorem kw100 : Jvm.Cond.fieldLink "WindCardShips$Game" (133 : Nat) "WindCardShips$Captain" "card" "I" ∈ WSa := wsa_i 100 _ (by decide +kernel) (by decide +kernel)
theorem kw101 : Jvm.Cond.fieldLink "WindCardShips$Captain" (18 : Nat) "WindCardShips$Captain" "timber" "I" ∈ WSa := wsa_i 101 _ (by decide +kernel) (by decide +kernel)
theorem kw102 : Jvm.Cond.fieldLink "WindCardShips$Game" (127 : Nat) "WindCardShips$Captain" "timber" "I" ∈ WSa := wsa_i 102 _ (by decide +kernel) (by decide +kernel)
theorem kw103 : Jvm.Cond.lays "WindCardShips$Captain" "WindCardShips$Captain" "hand" "I" ∈ WSa := wsa_i 103 _ (by decide +kernel) (by decide +kernel)
theorem kw104 : Jvm.Cond.soleField "WindCardShips$Captain" "hand" ∈ WSa := wsa_i 104 _ (by decide +kernel) (by decide +kernel)
theorem kw105 : Jvm.Cond.lays "WindCardShips$Captain" "WindCardShips$Captain" "card" "I" ∈ WSa := wsa_i 105 _ (by decide +kernel) (by decide +kernel)
theorem kw106 : Jvm.Cond.soleField "WindCardShips$Captain" "card" ∈ WSa := wsa_i 106 _ (by decide +kernel) (by decide +kernel)
theorem kw107 : Jvm.Cond.lays "WindCardShips$Captain" "WindCardShips$Captain" "timber" "I" ∈ WSa := wsa_i 107 _ (by decide +kernel) (by decide +kernel)
theorem kw108 : Jvm.Cond.soleField "WindCardShips$Captain" "timber" ∈ WSa := wsa_i 108 _ (by decide +kernel) (by decide +kernel)
theorem kw109 : Jvm.Cond.superclass "WindCardShips$Captain" "java/lang/Object" ∈ WSa := wsa_i 109 _ (by decide +kernel) (by decide +kernel)
theorem kw110 : Jvm.Cond.classLink "WindCardShips$Game" (31 : Nat) "WindCardShips$Ship" ∈ WSa := wsa_i 110 _ (by decide +kernel) (by decide +kernel)
theorem kw112 : Jvm.Cond.instantiable "WindCardShips$Ship" (12 : Nat) ∈ WSa := wsa_i 112 _ (by decide +kernel) (by decide +kernel)
theorem kw113 : Jvm.Cond.methodLink "WindCardShips$Game" (37 : Nat) ({ cls := "WindCardShips$Ship", name := "<init>", desc := "(I)V" } : Jvm.MethodName) ∈ WSa := wsa_i 113 _ (by decide +kernel) (by decide +kernel)
theorem kw114 : Jvm.Cond.instanceMethod ({ cls := "WindCardShips$Ship", name := "<init>", desc := "(I)V" } : Jvm.MethodName) ∈ WSa := wsa_i 114 _ (by decide +kernel) (by decide +kernel)
theorem kw115 : Jvm.Cond.code ({ cls := "WindCardShips$Ship", name := "<init>", desc := "(I)V" } : Jvm.MethodName) prog_9_method_1_code (2 : Nat) (Option.none : Option Jvm.ClassFile.FieldType) ∈ WSa := wsa_i 115 _ (by decide +kernel) (by decide +kernel)
theorem kw116 : Jvm.Cond.methodLink "WindCardShips$Ship" (3 : Nat) ({ cls := "java/lang/Object", name := "<init>", desc := "()V" } : Jvm.MethodName) ∈ WSa := wsa_i 116 _ (by decide +kernel) (by decide +kernel)
theorem kw117 : Jvm.Cond.fieldLink "WindCardShips$Ship" (15 : Nat) "WindCardShips$Ship" "number" "I" ∈ WSa := wsa_i 117 _ (by decide +kernel) (by decide +kernel)
theorem kw118 : Jvm.Cond.fieldLink "WindCardShips$Game" (94 : Nat) "WindCardShips$Ship" "number" "I" ∈ WSa := wsa_i 118 _ (by decide +kernel) (by decide +kernel)
theorem kw119 : Jvm.Cond.fieldLink "WindCardShips$Ship" (18 : Nat) "WindCardShips$Ship" "captain" "I" ∈ WSa := wsa_i 119 _ (by decide +kernel) (by decide +kernel)
theorem kw120 : Jvm.Cond.fieldLink "WindCardShips$Game" (105 : Nat) "WindCardShips$Ship" "captain" "I" ∈ WSa := wsa_i 120 _ (by decide +kernel) (by decide +kernel)
theorem kw121 : Jvm.Cond.fieldLink "WindCardShips$Routes" (33 : Nat) "WindCardShips$Ship" "hex" "I" ∈ WSa := wsa_i 121 _ (by decide +kernel) (by decide +kernel)
theorem kw122 : Jvm.Cond.fieldLink "WindCardShips$Ship" (21 : Nat) "WindCardShips$Ship" "hex" "I" ∈ WSa := wsa_i 122 _ (by decide +kernel) (by decide +kernel)
theorem kw123 : Jvm.Cond.fieldLink "WindCardShips$Game" (73 : Nat) "WindCardShips$Ship" "hex" "I" ∈ WSa := wsa_i 123 _ (by decide +kernel) (by decide +kernel)
theorem kw124 : Jvm.Cond.fieldLink "WindCardShips$Routes" (38 : Nat) "WindCardShips$Ship" "heading" "I" ∈ WSa := wsa_i 124 _ (by decide +kernel) (by decide +kernel)
theorem kw125 : Jvm.Cond.fieldLink "WindCardShips$Ship" (24 : Nat) "WindCardShips$Ship" "heading" "I" ∈ WSa := wsa_i 125 _ (by decide +kernel) (by decide +kernel)
theorem kw126 : Jvm.Cond.fieldLink "WindCardShips$Game" (108 : Nat) "WindCardShips$Ship" "heading" "I" ∈ WSa := wsa_i 126 _ (by decide +kernel) (by decide +kernel)
theorem kw127 : Jvm.Cond.fieldLink "WindCardShips$Ship" (27 : Nat) "WindCardShips$Ship" "hull" "I" ∈ WSa := wsa_i 127 _ (by decide +kernel) (by decide +kernel)
theorem kw128 : Jvm.Cond.fieldLink "WindCardShips$Game" (111 : Nat) "WindCardShips$Ship" "hull" "I" ∈ WSa := wsa_i 128 _ (by decide +kernel) (by decide +kernel)
theorem kw129 : Jvm.Cond.fieldLink "WindCardShips$Ship" (30 : Nat) "WindCardShips$Ship" "sails" "I" ∈ WSa := wsa_i 129 _ (by decide +kernel) (by decide +kernel)
theorem kw130 : Jvm.Cond.fieldLink "WindCardShips$Game" (114 : Nat) "WindCardShips$Ship" "sails" "I" ∈ WSa := wsa_i 130 _ (by decide +kernel) (by decide +kernel)
theorem kw131 : Jvm.Cond.fieldLink "WindCardShips$Ship" (33 : Nat) "WindCardShips$Ship" "crew" "I" ∈ WSa := wsa_i 131 _ (by decide +kernel) (by decide +kernel)
theorem kw132 : Jvm.Cond.fieldLink "WindCardShips$Game" (117 : Nat) "WindCardShips$Ship" "crew" "I" ∈ WSa := wsa_i 132 _ (by decide +kernel) (by decide +kernel)
theorem kw133 : Jvm.Cond.fieldLink "WindCardShips$Ship" (36 : Nat) "WindCardShips$Ship" "guns" "I" ∈ WSa := wsa_i 133 _ (by decide +kernel) (by decide +kernel)
theorem kw134 : Jvm.Cond.fieldLink "WindCardShips$Game" (120 : Nat) "WindCardShips$Ship" "guns" "I" ∈ WSa := wsa_i 134 _ (by decide +kernel) (by decide +kernel)
theorem kw135 : Jvm.Cond.fieldLink "WindCardShips$Ship" (9 : Nat) "WindCardShips$Ship" "grappledWith" "I" ∈ WSa := wsa_i 135 _ (by decide +kernel) (by decide +kernel)
theorem kw136 : Jvm.Cond.fieldLink "WindCardShips$Game" (223 : Nat) "WindCardShips$Ship" "grappledWith" "I" ∈ WSa := wsa_i 136 _ (by decide +kernel) (by decide +kernel)
theorem kw137 : Jvm.Cond.fieldLink "WindCardShips$Ship" (39 : Nat) "WindCardShips$Ship" "leftReady" "I" ∈ WSa := wsa_i 137 _ (by decide +kernel) (by decide +kernel)
theorem kw138 : Jvm.Cond.fieldLink "WindCardShips$Ship" (42 : Nat) "WindCardShips$Ship" "rightReady" "I" ∈ WSa := wsa_i 138 _ (by decide +kernel) (by decide +kernel)
theorem kw139 : Jvm.Cond.fieldLink "WindCardShips$Ship" (45 : Nat) "WindCardShips$Ship" "done" "I" ∈ WSa := wsa_i 139 _ (by decide +kernel) (by decide +kernel)
theorem kw140 : Jvm.Cond.fieldLink "WindCardShips$Game" (186 : Nat) "WindCardShips$Ship" "done" "I" ∈ WSa := wsa_i 140 _ (by decide +kernel) (by decide +kernel)
theorem kw141 : Jvm.Cond.laysFinal "WindCardShips$Ship" "WindCardShips$Ship" "number" "I" ∈ WSa := wsa_i 141 _ (by decide +kernel) (by decide +kernel)
theorem kw142 : Jvm.Cond.soleField "WindCardShips$Ship" "number" ∈ WSa := wsa_i 142 _ (by decide +kernel) (by decide +kernel)
theorem kw143 : Jvm.Cond.lays "WindCardShips$Ship" "WindCardShips$Ship" "captain" "I" ∈ WSa := wsa_i 143 _ (by decide +kernel) (by decide +kernel)
theorem kw144 : Jvm.Cond.soleField "WindCardShips$Ship" "captain" ∈ WSa := wsa_i 144 _ (by decide +kernel) (by decide +kernel)
theorem kw145 : Jvm.Cond.lays "WindCardShips$Ship" "WindCardShips$Ship" "hex" "I" ∈ WSa := wsa_i 145 _ (by decide +kernel) (by decide +kernel)
theorem kw146 : Jvm.Cond.soleField "WindCardShips$Ship" "hex" ∈ WSa := wsa_i 146 _ (by decide +kernel) (by decide +kernel)
theorem kw147 : Jvm.Cond.lays "WindCardShips$Ship" "WindCardShips$Ship" "heading" "I" ∈ WSa := wsa_i 147 _ (by decide +kernel) (by decide +kernel)
theorem kw148 : Jvm.Cond.soleField "WindCardShips$Ship" "heading" ∈ WSa := wsa_i 148 _ (by decide +kernel) (by decide +kernel)
theorem kw149 : Jvm.Cond.lays "WindCardShips$Ship" "WindCardShips$Ship" "hull" "I" ∈ WSa := wsa_i 149 _ (by decide +kernel) (by decide +kernel)
theorem kw150 : Jvm.Cond.soleField "WindCardShips$Ship" "hull" ∈ WSa := wsa_i 150 _ (by decide +kernel) (by decide +kernel)
theorem kw151 : Jvm.Cond.lays "WindCardShips$Ship" "WindCardShips$Ship" "sails" "I" ∈ WSa := wsa_i 151 _ (by decide +kernel) (by decide +kernel)
theorem kw152 : Jvm.Cond.soleField "WindCardShips$Ship" "sails" ∈ WSa := wsa_i 152 _ (by decide +kernel) (by decide +kernel)
theorem kw153 : Jvm.Cond.lays "WindCardShips$Ship" "WindCardShips$Ship" "crew" "I" ∈ WSa := wsa_i 153 _ (by decide +kernel) (by decide +kernel)
theorem kw154 : Jvm.Cond.soleField "WindCardShips$Ship" "crew" ∈ WSa := wsa_i 154 _ (by decide +kernel) (by decide +kernel)
theorem kw155 : Jvm.Cond.lays "WindCardShips$Ship" "WindCardShips$Ship" "guns" "I" ∈ WSa := wsa_i 155 _ (by decide +kernel) (by decide +kernel)
theorem kw156 : Jvm.Cond.soleField "WindCardShips$Ship" "guns" ∈ WSa := wsa_i 156 _ (by decide +kernel) (by decide +kernel)
theorem kw157 : Jvm.Cond.lays "WindCardShips$Ship" "WindCardShips$Ship" "grappledWith" "I" ∈ WSa := wsa_i 157 _ (by decide +kernel) (by decide +kernel)
theorem kw158 : Jvm.Cond.soleField "WindCardShips$Ship" "grappledWith" ∈ WSa := wsa_i 158 _ (by decide +kernel) (by decide +kernel)
theorem kw159 : Jvm.Cond.lays "WindCardShips$Ship" "WindCardShips$Ship" "leftReady" "I" ∈ WSa := wsa_i 159 _ (by decide +kernel) (by decide +kernel)
theorem kw160 : Jvm.Cond.soleField "WindCardShips$Ship" "leftReady" ∈ WSa := wsa_i 160 _ (by decide +kernel) (by decide +kernel)
theorem kw161 : Jvm.Cond.lays "WindCardShips$Ship" "WindCardShips$Ship" "rightReady" "I" ∈ WSa := wsa_i 161 _ (by decide +kernel) (by decide +kernel)
theorem kw162 : Jvm.Cond.soleField "WindCardShips$Ship" "rightReady" ∈ WSa := wsa_i 162 _ (by decide +kernel) (by decide +kernel)
theorem kw163 : Jvm.Cond.lays "WindCardShips$Ship" "WindCardShips$Ship" "done" "I" ∈ WSa := wsa_i 163 _ (by decide +kernel) (by decide +kernel)
theorem kw164 : Jvm.Cond.soleField "WindCardShips$Ship" "done" ∈ WSa := wsa_i 164 _ (by decide +kernel) (by decide +kernel)
theorem kw165 : Jvm.Cond.superclass "WindCardShips$Ship" "java/lang/Object" ∈ WSa := wsa_i 165 _ (by decide +kernel) (by decide +kernel)
theorem kw166 : Jvm.Cond.arrayClass Jvm.ClassFile.FieldType.int ∈ WSa := wsa_i 166 _ (by decide +kernel) (by decide +kernel)
theorem kw167 : Jvm.Cond.fieldLink "WindCardShips$Game" (40 : Nat) "WindCardShips$Game" "turn" "I" ∈ WSa := wsa_i 167 _ (by decide +kernel) (by decide +kernel)
theorem kw168 : Jvm.Cond.fieldLink "WindCardShips$Game" (43 : Nat) "WindCardShips$Game" "moving" "Z" ∈ WSa := wsa_i 168 _ (by decide +kernel) (by decide +kernel)
theorem kw169 : Jvm.Cond.fieldLink "WindCardShips$Game" (47 : Nat) "WindCardShips$Game" "direction" "I" ∈ WSa := wsa_i 169 _ (by decide +kernel) (by decide +kernel)
theorem kw170 : Jvm.Cond.fieldLink "WindCardShips$Game" (9 : Nat) "WindCardShips$Game" "windStrength" "I" ∈ WSa := wsa_i 170 _ (by decide +kernel) (by decide +kernel)
theorem kw171 : Jvm.Cond.fieldLink "WindCardShips$Game" (50 : Nat) "WindCardShips$Game" "shipCount" "I" ∈ WSa := wsa_i 171 _ (by decide +kernel) (by decide +kernel)
theorem kw172 : Jvm.Cond.fieldLink "WindCardShips$Game" (53 : Nat) "WindCardShips$Game" "captures" "I" ∈ WSa := wsa_i 172 _ (by decide +kernel) (by decide +kernel)
theorem kw173 : Jvm.Cond.fieldLink "WindCardShips$Game" (18 : Nat) "WindCardShips$Game" "first" "LWindCardShips$Captain;" ∈ WSa := wsa_i 173 _ (by decide +kernel) (by decide +kernel)
theorem kw174 : Jvm.Cond.fieldLink "WindCardShips$Game" (22 : Nat) "WindCardShips$Game" "second" "LWindCardShips$Captain;" ∈ WSa := wsa_i 174 _ (by decide +kernel) (by decide +kernel)
theorem kw175 : Jvm.Cond.fieldLink "WindCardShips$Game" (27 : Nat) "WindCardShips$Game" "islands" "[I" ∈ WSa := wsa_i 175 _ (by decide +kernel) (by decide +kernel)
theorem kw176 : Jvm.Cond.fieldLink "WindCardShips$Game" (33 : Nat) "WindCardShips$Game" "ships" "[LWindCardShips$Ship;" ∈ WSa := wsa_i 176 _ (by decide +kernel) (by decide +kernel)
theorem kw177 : Jvm.Cond.lays "WindCardShips$Game" "WindCardShips$Game" "turn" "I" ∈ WSa := wsa_i 177 _ (by decide +kernel) (by decide +kernel)
theorem kw178 : Jvm.Cond.soleField "WindCardShips$Game" "turn" ∈ WSa := wsa_i 178 _ (by decide +kernel) (by decide +kernel)
theorem kw179 : Jvm.Cond.lays "WindCardShips$Game" "WindCardShips$Game" "moving" "Z" ∈ WSa := wsa_i 179 _ (by decide +kernel) (by decide +kernel)
theorem kw180 : Jvm.Cond.soleField "WindCardShips$Game" "moving" ∈ WSa := wsa_i 180 _ (by decide +kernel) (by decide +kernel)
theorem kw181 : Jvm.Cond.lays "WindCardShips$Game" "WindCardShips$Game" "direction" "I" ∈ WSa := wsa_i 181 _ (by decide +kernel) (by decide +kernel)
theorem kw182 : Jvm.Cond.soleField "WindCardShips$Game" "direction" ∈ WSa := wsa_i 182 _ (by decide +kernel) (by decide +kernel)
theorem kw183 : Jvm.Cond.lays "WindCardShips$Game" "WindCardShips$Game" "windStrength" "I" ∈ WSa := wsa_i 183 _ (by decide +kernel) (by decide +kernel)
theorem kw184 : Jvm.Cond.soleField "WindCardShips$Game" "windStrength" ∈ WSa := wsa_i 184 _ (by decide +kernel) (by decide +kernel)
theorem kw185 : Jvm.Cond.lays "WindCardShips$Game" "WindCardShips$Game" "shipCount" "I" ∈ WSa := wsa_i 185 _ (by decide +kernel) (by decide +kernel)
theorem kw186 : Jvm.Cond.soleField "WindCardShips$Game" "shipCount" ∈ WSa := wsa_i 186 _ (by decide +kernel) (by decide +kernel)
theorem kw187 : Jvm.Cond.lays "WindCardShips$Game" "WindCardShips$Game" "captures" "I" ∈ WSa := wsa_i 187 _ (by decide +kernel) (by decide +kernel)
theorem kw188 : Jvm.Cond.soleField "WindCardShips$Game" "captures" ∈ WSa := wsa_i 188 _ (by decide +kernel) (by decide +kernel)
theorem kw189 : Jvm.Cond.laysFinal "WindCardShips$Game" "WindCardShips$Game" "first" "LWindCardShips$Captain;" ∈ WSa := wsa_i 189 _ (by decide +kernel) (by decide +kernel)
theorem kw190 : Jvm.Cond.soleField "WindCardShips$Game" "first" ∈ WSa := wsa_i 190 _ (by decide +kernel) (by decide +kernel)
theorem kw191 : Jvm.Cond.laysFinal "WindCardShips$Game" "WindCardShips$Game" "second" "LWindCardShips$Captain;" ∈ WSa := wsa_i 191 _ (by decide +kernel) (by decide +kernel)
theorem kw192 : Jvm.Cond.soleField "WindCardShips$Game" "second" ∈ WSa := wsa_i 192 _ (by decide +kernel) (by decide +kernel)
theorem kw193 : Jvm.Cond.laysFinal "WindCardShips$Game" "WindCardShips$Game" "islands" "[I" ∈ WSa := wsa_i 193 _ (by decide +kernel) (by decide +kernel)
theorem kw194 : Jvm.Cond.soleField "WindCardShips$Game" "islands" ∈ WSa := wsa_i 194 _ (by decide +kernel) (by decide +kernel)
theorem kw195 : Jvm.Cond.laysFinal "WindCardShips$Game" "WindCardShips$Game" "ships" "[LWindCardShips$Ship;" ∈ WSa := wsa_i 195 _ (by decide +kernel) (by decide +kernel)
theorem kw196 : Jvm.Cond.soleField "WindCardShips$Game" "ships" ∈ WSa := wsa_i 196 _ (by decide +kernel) (by decide +kernel)
theorem kw197 : Jvm.Cond.superclass "WindCardShips$Game" "java/lang/Object" ∈ WSa := wsa_i 197 _ (by decide +kernel) (by decide +kernel)
theorem kw198 : Jvm.Cond.fieldLink "WindCardShips$State" (12 : Nat) "WindCardShips$State" "game" "LWindCardShips$Game;" ∈ WSa := wsa_i 198 _ (by decide +kernel) (by decide +kernel)
theorem kw199 : Jvm.Cond.fieldLink "WindCardShips" (41 : Nat) "WindCardShips$State" "game" "LWindCardShips$Game;" ∈ WSa := wsa_i 199 _ (by decide +kernel) (by decide +kernel)
theorem kw200 : Jvm.Cond.fieldLink "WindCardShips$State" (18 : Nat) "WindCardShips$State" "firstSlot" "LWindCardShips$Game;" ∈ WSa := wsa_i 200 _ (by decide +kernel) (by decide +kernel)
theorem kw201 : Jvm.Cond.fieldLink "WindCardShips$State" (21 : Nat) "WindCardShips$State" "secondSlot" "LWindCardShips$Game;" ∈ WSa := wsa_i 201 _ (by decide +kernel) (by decide +kernel)
theorem kw202 : Jvm.Cond.fieldLink "WindCardShips$State" (28 : Nat) "WindCardShips$State" "taken" "I" ∈ WSa := wsa_i 202 _ (by decide +kernel) (by decide +kernel)
theorem kw203 : Jvm.Cond.fieldLink "WindCardShips" (118 : Nat) "WindCardShips$State" "taken" "I" ∈ WSa := wsa_i 203 _ (by decide +kernel) (by decide +kernel)
theorem kw204 : Jvm.Cond.laysFinal "WindCardShips$State" "WindCardShips$State" "game" "LWindCardShips$Game;" ∈ WSa := wsa_i 204 _ (by decide +kernel) (by decide +kernel)
theorem kw205 : Jvm.Cond.soleField "WindCardShips$State" "game" ∈ WSa := wsa_i 205 _ (by decide +kernel) (by decide +kernel)
theorem kw206 : Jvm.Cond.laysFinal "WindCardShips$State" "WindCardShips$State" "firstSlot" "LWindCardShips$Game;" ∈ WSa := wsa_i 206 _ (by decide +kernel) (by decide +kernel)
theorem kw207 : Jvm.Cond.soleField "WindCardShips$State" "firstSlot" ∈ WSa := wsa_i 207 _ (by decide +kernel) (by decide +kernel)
theorem kw208 : Jvm.Cond.laysFinal "WindCardShips$State" "WindCardShips$State" "secondSlot" "LWindCardShips$Game;" ∈ WSa := wsa_i 208 _ (by decide +kernel) (by decide +kernel)
theorem kw209 : Jvm.Cond.soleField "WindCardShips$State" "secondSlot" ∈ WSa := wsa_i 209 _ (by decide +kernel) (by decide +kernel)
theorem kw210 : Jvm.Cond.lays "WindCardShips$State" "WindCardShips$State" "taken" "I" ∈ WSa := wsa_i 210 _ (by decide +kernel) (by decide +kernel)
theorem kw211 : Jvm.Cond.soleField "WindCardShips$State" "taken" ∈ WSa := wsa_i 211 _ (by decide +kernel) (by decide +kernel)
theorem kw212 : Jvm.Cond.superclass "WindCardShips$State" "java/lang/Object" ∈ WSa := wsa_i 212 _ (by decide +kernel) (by decide +kernel)
theorem kw213 : Jvm.Cond.classLink "WindCardShips" (16 : Nat) "WindCardShips$History" ∈ WSa := wsa_i 213 _ (by decide +kernel) (by decide +kernel)
theorem kw214 : Jvm.Cond.instantiable "WindCardShips$History" (3 : Nat) ∈ WSa := wsa_i 214 _ (by decide +kernel) (by decide +kernel)
theorem kw215 : Jvm.Cond.methodLink "WindCardShips" (18 : Nat) ({ cls := "WindCardShips$History", name := "<init>", desc := "()V" } : Jvm.MethodName) ∈ WSa := wsa_i 215 _ (by decide +kernel) (by decide +kernel)
theorem kw216 : Jvm.Cond.instanceMethod ({ cls := "WindCardShips$History", name := "<init>", desc := "()V" } : Jvm.MethodName) ∈ WSa := wsa_i 216 _ (by decide +kernel) (by decide +kernel)
theorem kw217 : Jvm.Cond.code ({ cls := "WindCardShips$History", name := "<init>", desc := "()V" } : Jvm.MethodName) prog_5_method_1_code (2 : Nat) (Option.none : Option Jvm.ClassFile.FieldType) ∈ WSa := wsa_i 217 _ (by decide +kernel) (by decide +kernel)
theorem kw218 : Jvm.Cond.methodLink "WindCardShips$History" (3 : Nat) ({ cls := "java/lang/Object", name := "<init>", desc := "()V" } : Jvm.MethodName) ∈ WSa := wsa_i 218 _ (by decide +kernel) (by decide +kernel)
theorem kw219 : Jvm.Cond.classLink "WindCardShips$History" (11 : Nat) "WindCardShips$State" ∈ WSa := wsa_i 219 _ (by decide +kernel) (by decide +kernel)
theorem kw222 : Jvm.Cond.fieldLink "WindCardShips$History" (13 : Nat) "WindCardShips$History" "rows" "[LWindCardShips$State;" ∈ WSa := wsa_i 222 _ (by decide +kernel) (by decide +kernel)
theorem kw223 : Jvm.Cond.fieldLink "WindCardShips$History" (18 : Nat) "WindCardShips$History" "aside" "LWindCardShips$State;" ∈ WSa := wsa_i 223 _ (by decide +kernel) (by decide +kernel)
theorem kw224 : Jvm.Cond.fieldLink "WindCardShips$History" (22 : Nat) "WindCardShips$History" "size" "I" ∈ WSa := wsa_i 224 _ (by decide +kernel) (by decide +kernel)
theorem kw225 : Jvm.Cond.laysFinal "WindCardShips$History" "WindCardShips$History" "rows" "[LWindCardShips$State;" ∈ WSa := wsa_i 225 _ (by decide +kernel) (by decide +kernel)
theorem kw226 : Jvm.Cond.soleField "WindCardShips$History" "rows" ∈ WSa := wsa_i 226 _ (by decide +kernel) (by decide +kernel)
theorem kw227 : Jvm.Cond.lays "WindCardShips$History" "WindCardShips$History" "aside" "LWindCardShips$State;" ∈ WSa := wsa_i 227 _ (by decide +kernel) (by decide +kernel)
theorem kw228 : Jvm.Cond.soleField "WindCardShips$History" "aside" ∈ WSa := wsa_i 228 _ (by decide +kernel) (by decide +kernel)
theorem kw229 : Jvm.Cond.lays "WindCardShips$History" "WindCardShips$History" "size" "I" ∈ WSa := wsa_i 229 _ (by decide +kernel) (by decide +kernel)
theorem kw230 : Jvm.Cond.soleField "WindCardShips$History" "size" ∈ WSa := wsa_i 230 _ (by decide +kernel) (by decide +kernel)
theorem kw231 : Jvm.Cond.superclass "WindCardShips$History" "java/lang/Object" ∈ WSa := wsa_i 231 _ (by decide +kernel) (by decide +kernel)
theorem kw232 : Jvm.Cond.classLink "WindCardShips" (23 : Nat) "WindCardShips$Orders" ∈ WSa := wsa_i 232 _ (by decide +kernel) (by decide +kernel)
theorem kw233 : Jvm.Cond.instantiable "WindCardShips$Orders" (7 : Nat) ∈ WSa := wsa_i 233 _ (by decide +kernel) (by decide +kernel)
theorem kw235 : Jvm.Cond.instanceMethod ({ cls := "WindCardShips$Orders", name := "<init>", desc := "()V" } : Jvm.MethodName) ∈ WSa := wsa_i 235 _ (by decide +kernel) (by decide +kernel)
theorem kw236 : Jvm.Cond.code ({ cls := "WindCardShips$Orders", name := "<init>", desc := "()V" } : Jvm.MethodName) prog_6_method_1_code (1 : Nat) (Option.none : Option Jvm.ClassFile.FieldType) ∈ WSa := wsa_i 236 _ (by decide +kernel) (by decide +kernel)
theorem kw237 : Jvm.Cond.methodLink "WindCardShips$Orders" (3 : Nat) ({ cls := "java/lang/Object", name := "<init>", desc := "()V" } : Jvm.MethodName) ∈ WSa := wsa_i 237 _ (by decide +kernel) (by decide +kernel)
theorem kw238 : Jvm.Cond.fieldLink "WindCardShips$Orders" (11 : Nat) "WindCardShips$Orders" "signs" "[I" ∈ WSa := wsa_i 238 _ (by decide +kernel) (by decide +kernel)
theorem kw239 : Jvm.Cond.fieldLink "WindCardShips$Orders" (15 : Nat) "WindCardShips$Orders" "length" "I" ∈ WSa := wsa_i 239 _ (by decide +kernel) (by decide +kernel)
theorem kw240 : Jvm.Cond.fieldLink "WindCardShips$Orders" (19 : Nat) "WindCardShips$Orders" "at" "I" ∈ WSa := wsa_i 240 _ (by decide +kernel) (by decide +kernel)
theorem kw241 : Jvm.Cond.fieldLink "WindCardShips$Orders" (43 : Nat) "WindCardShips$Orders" "letter" "I" ∈ WSa := wsa_i 241 _ (by decide +kernel) (by decide +kernel)
theorem kw242 : Jvm.Cond.fieldLink "WindCardShips$Orders" (60 : Nat) "WindCardShips$Orders" "one" "I" ∈ WSa := wsa_i 242 _ (by decide +kernel) (by decide +kernel)
theorem kw243 : Jvm.Cond.fieldLink "WindCardShips$Orders" (63 : Nat) "WindCardShips$Orders" "two" "I" ∈ WSa := wsa_i 243 _ (by decide +kernel) (by decide +kernel)
theorem kw244 : Jvm.Cond.fieldLink "WindCardShips$Orders" (66 : Nat) "WindCardShips$Orders" "three" "I" ∈ WSa := wsa_i 244 _ (by decide +kernel) (by decide +kernel)
theorem kw245 : Jvm.Cond.laysFinal "WindCardShips$Orders" "WindCardShips$Orders" "signs" "[I" ∈ WSa := wsa_i 245 _ (by decide +kernel) (by decide +kernel)
theorem kw246 : Jvm.Cond.soleField "WindCardShips$Orders" "signs" ∈ WSa := wsa_i 246 _ (by decide +kernel) (by decide +kernel)
theorem kw247 : Jvm.Cond.lays "WindCardShips$Orders" "WindCardShips$Orders" "length" "I" ∈ WSa := wsa_i 247 _ (by decide +kernel) (by decide +kernel)
theorem kw248 : Jvm.Cond.soleField "WindCardShips$Orders" "length" ∈ WSa := wsa_i 248 _ (by decide +kernel) (by decide +kernel)
theorem kw249 : Jvm.Cond.lays "WindCardShips$Orders" "WindCardShips$Orders" "at" "I" ∈ WSa := wsa_i 249 _ (by decide +kernel) (by decide +kernel)
theorem kw250 : Jvm.Cond.soleField "WindCardShips$Orders" "at" ∈ WSa := wsa_i 250 _ (by decide +kernel) (by decide +kernel)
theorem kw251 : Jvm.Cond.lays "WindCardShips$Orders" "WindCardShips$Orders" "letter" "I" ∈ WSa := wsa_i 251 _ (by decide +kernel) (by decide +kernel)
theorem kw252 : Jvm.Cond.soleField "WindCardShips$Orders" "letter" ∈ WSa := wsa_i 252 _ (by decide +kernel) (by decide +kernel)
theorem kw253 : Jvm.Cond.lays "WindCardShips$Orders" "WindCardShips$Orders" "one" "I" ∈ WSa := wsa_i 253 _ (by decide +kernel) (by decide +kernel)
theorem kw254 : Jvm.Cond.soleField "WindCardShips$Orders" "one" ∈ WSa := wsa_i 254 _ (by decide +kernel) (by decide +kernel)
theorem kw255 : Jvm.Cond.lays "WindCardShips$Orders" "WindCardShips$Orders" "two" "I" ∈ WSa := wsa_i 255 _ (by decide +kernel) (by decide +kernel)
theorem kw256 : Jvm.Cond.soleField "WindCardShips$Orders" "two" ∈ WSa := wsa_i 256 _ (by decide +kernel) (by decide +kernel)
theorem kw257 : Jvm.Cond.lays "WindCardShips$Orders" "WindCardShips$Orders" "three" "I" ∈ WSa := wsa_i 257 _ (by decide +kernel) (by decide +kernel)
theorem kw258 : Jvm.Cond.soleField "WindCardShips$Orders" "three" ∈ WSa := wsa_i 258 _ (by decide +kernel) (by decide +kernel)
theorem kw259 : Jvm.Cond.superclass "WindCardShips$Orders" "java/lang/Object" ∈ WSa := wsa_i 259 _ (by decide +kernel) (by decide +kernel)
theorem kw260 : Jvm.Cond.classLink "WindCardShips" (30 : Nat) "WindCardShips$Routes" ∈ WSa := wsa_i 260 _ (by decide +kernel) (by decide +kernel)
theorem kw261 : Jvm.Cond.instantiable "WindCardShips$Routes" (4 : Nat) ∈ WSa := wsa_i 261 _ (by decide +kernel) (by decide +kernel)
theorem kw263 : Jvm.Cond.instanceMethod ({ cls := "WindCardShips$Routes", name := "<init>", desc := "()V" } : Jvm.MethodName) ∈ WSa := wsa_i 263 _ (by decide +kernel) (by decide +kernel)
theorem kw264 : Jvm.Cond.code ({ cls := "WindCardShips$Routes", name := "<init>", desc := "()V" } : Jvm.MethodName) prog_8_method_1_code (1 : Nat) (Option.none : Option Jvm.ClassFile.FieldType) ∈ WSa := wsa_i 264 _ (by decide +kernel) (by decide +kernel)
theorem kw265 : Jvm.Cond.methodLink "WindCardShips$Routes" (5 : Nat) ({ cls := "java/lang/Object", name := "<init>", desc := "()V" } : Jvm.MethodName) ∈ WSa := wsa_i 265 _ (by decide +kernel) (by decide +kernel)
theorem kw266 : Jvm.Cond.fieldLink "WindCardShips$Routes" (13 : Nat) "WindCardShips$Routes" "pathTo" "[I" ∈ WSa := wsa_i 266 _ (by decide +kernel) (by decide +kernel)
theorem kw267 : Jvm.Cond.fieldLink "WindCardShips$Routes" (17 : Nat) "WindCardShips$Routes" "queue" "[I" ∈ WSa := wsa_i 267 _ (by decide +kernel) (by decide +kernel)
theorem kw268 : Jvm.Cond.fieldLink "WindCardShips$Routes" (20 : Nat) "WindCardShips$Routes" "arrival" "[I" ∈ WSa := wsa_i 268 _ (by decide +kernel) (by decide +kernel)
theorem kw269 : Jvm.Cond.fieldLink "WindCardShips$Routes" (29 : Nat) "WindCardShips$Routes" "queued" "I" ∈ WSa := wsa_i 269 _ (by decide +kernel) (by decide +kernel)
theorem kw270 : Jvm.Cond.laysFinal "WindCardShips$Routes" "WindCardShips$Routes" "pathTo" "[I" ∈ WSa := wsa_i 270 _ (by decide +kernel) (by decide +kernel)
theorem kw271 : Jvm.Cond.soleField "WindCardShips$Routes" "pathTo" ∈ WSa := wsa_i 271 _ (by decide +kernel) (by decide +kernel)
theorem kw272 : Jvm.Cond.laysFinal "WindCardShips$Routes" "WindCardShips$Routes" "queue" "[I" ∈ WSa := wsa_i 272 _ (by decide +kernel) (by decide +kernel)
theorem kw273 : Jvm.Cond.soleField "WindCardShips$Routes" "queue" ∈ WSa := wsa_i 273 _ (by decide +kernel) (by decide +kernel)
theorem kw274 : Jvm.Cond.laysFinal "WindCardShips$Routes" "WindCardShips$Routes" "arrival" "[I" ∈ WSa := wsa_i 274 _ (by decide +kernel) (by decide +kernel)
theorem kw275 : Jvm.Cond.soleField "WindCardShips$Routes" "arrival" ∈ WSa := wsa_i 275 _ (by decide +kernel) (by decide +kernel)
theorem kw276 : Jvm.Cond.lays "WindCardShips$Routes" "WindCardShips$Routes" "queued" "I" ∈ WSa := wsa_i 276 _ (by decide +kernel) (by decide +kernel)
theorem kw277 : Jvm.Cond.soleField "WindCardShips$Routes" "queued" ∈ WSa := wsa_i 277 _ (by decide +kernel) (by decide +kernel)
theorem kw278 : Jvm.Cond.superclass "WindCardShips$Routes" "java/lang/Object" ∈ WSa := wsa_i 278 _ (by decide +kernel) (by decide +kernel)
theorem kw279 : Jvm.Cond.fieldLink "WindCardShips" (10 : Nat) "WindCardShips" "state" "LWindCardShips$State;" ∈ WSa := wsa_i 279 _ (by decide +kernel) (by decide +kernel)
theorem kw280 : Jvm.Cond.fieldLink "WindCardShips" (19 : Nat) "WindCardShips" "history" "LWindCardShips$History;" ∈ WSa := wsa_i 280 _ (by decide +kernel) (by decide +kernel)
theorem kw281 : Jvm.Cond.fieldLink "WindCardShips" (26 : Nat) "WindCardShips" "orders" "LWindCardShips$Orders;" ∈ WSa := wsa_i 281 _ (by decide +kernel) (by decide +kernel)
theorem kw282 : Jvm.Cond.fieldLink "WindCardShips" (33 : Nat) "WindCardShips" "routes" "LWindCardShips$Routes;" ∈ WSa := wsa_i 282 _ (by decide +kernel) (by decide +kernel)
theorem kw283 : Jvm.Cond.laysFinal "WindCardShips" "WindCardShips" "state" "LWindCardShips$State;" ∈ WSa := wsa_i 283 _ (by decide +kernel) (by decide +kernel)
theorem kw284 : Jvm.Cond.soleField "WindCardShips" "state" ∈ WSa := wsa_i 284 _ (by decide +kernel) (by decide +kernel)
theorem kw285 : Jvm.Cond.laysFinal "WindCardShips" "WindCardShips" "history" "LWindCardShips$History;" ∈ WSa := wsa_i 285 _ (by decide +kernel) (by decide +kernel)
theorem kw286 : Jvm.Cond.soleField "WindCardShips" "history" ∈ WSa := wsa_i 286 _ (by decide +kernel) (by decide +kernel)
theorem kw287 : Jvm.Cond.laysFinal "WindCardShips" "WindCardShips" "orders" "LWindCardShips$Orders;" ∈ WSa := wsa_i 287 _ (by decide +kernel) (by decide +kernel)
theorem kw288 : Jvm.Cond.soleField "WindCardShips" "orders" ∈ WSa := wsa_i 288 _ (by decide +kernel) (by decide +kernel)
theorem kw289 : Jvm.Cond.laysFinal "WindCardShips" "WindCardShips" "routes" "LWindCardShips$Routes;" ∈ WSa := wsa_i 289 _ (by decide +kernel) (by decide +kernel)
theorem kw290 : Jvm.Cond.soleField "WindCardShips" "routes" ∈ WSa := wsa_i 290 _ (by decide +kernel) (by decide +kernel)
theorem kw291 : Jvm.Cond.superclass "WindCardShips" "java/lang/Object" ∈ WSa := wsa_i 291 _ (by decide +kernel) (by decide +kernel)
theorem kw292 : Jvm.Cond.methodLink "WindCardShipsLaw" (13 : Nat) ({ cls := "WindCardShips", name := "setIsland", desc := "(II)I" } : Jvm.MethodName) ∈ WSa := wsa_i 292 _ (by decide +kernel) (by decide +kernel)
theorem kw293 : Jvm.Cond.instanceMethod ({ cls := "WindCardShips", name := "setIsland", desc := "(II)I" } : Jvm.MethodName) ∈ WSa := wsa_i 293 _ (by decide +kernel) (by decide +kernel)
theorem kw294 : Jvm.Cond.selects "WindCardShips" ({ cls := "WindCardShips", name := "setIsland", desc := "(II)I" } : Jvm.MethodName) ({ cls := "WindCardShips", name := "setIsland", desc := "(II)I" } : Jvm.MethodName) ∈ WSa := wsa_i 294 _ (by decide +kernel) (by decide +kernel)
theorem kw295 : Jvm.Cond.code ({ cls := "WindCardShips", name := "setIsland", desc := "(II)I" } : Jvm.MethodName) prog_1_method_2_code (3 : Nat) (Option.some Jvm.ClassFile.FieldType.int) ∈ WSa := wsa_i 295 _ (by decide +kernel) (by decide +kernel)
theorem kw296 : Jvm.Cond.methodLink "WindCardShips" (37 : Nat) ({ cls := "WindCardShips$History", name := "keepAside", desc := "(LWindCardShips$State;)V" } : Jvm.MethodName) ∈ WSa := wsa_i 296 _ (by decide +kernel) (by decide +kernel)
theorem kw297 : Jvm.Cond.instanceMethod ({ cls := "WindCardShips$History", name := "keepAside", desc := "(LWindCardShips$State;)V" } : Jvm.MethodName) ∈ WSa := wsa_i 297 _ (by decide +kernel) (by decide +kernel)
theorem kw298 : Jvm.Cond.selects "WindCardShips$History" ({ cls := "WindCardShips$History", name := "keepAside", desc := "(LWindCardShips$State;)V" } : Jvm.MethodName) ({ cls := "WindCardShips$History", name := "keepAside", desc := "(LWindCardShips$State;)V" } : Jvm.MethodName) ∈ WSa := wsa_i 298 _ (by decide +kernel) (by decide +kernel)
theorem kw299 : Jvm.Cond.code ({ cls := "WindCardShips$History", name := "keepAside", desc := "(LWindCardShips$State;)V" } : Jvm.MethodName) prog_5_method_3_code (2 : Nat) (Option.none : Option Jvm.ClassFile.FieldType) ∈ WSa := wsa_i 299 _ (by decide +kernel) (by decide +kernel)
theorem kw300 : Jvm.Cond.methodLink "WindCardShips$History" (26 : Nat) ({ cls := "WindCardShips$State", name := "copyFrom", desc := "(LWindCardShips$State;)V" } : Jvm.MethodName) ∈ WSa := wsa_i 300 _ (by decide +kernel) (by decide +kernel)
theorem kw301 : Jvm.Cond.instanceMethod ({ cls := "WindCardShips$State", name := "copyFrom", desc := "(LWindCardShips$State;)V" } : Jvm.MethodName) ∈ WSa := wsa_i 301 _ (by decide +kernel) (by decide +kernel)
theorem kw302 : Jvm.Cond.selects "WindCardShips$State" ({ cls := "WindCardShips$State", name := "copyFrom", desc := "(LWindCardShips$State;)V" } : Jvm.MethodName) ({ cls := "WindCardShips$State", name := "copyFrom", desc := "(LWindCardShips$State;)V" } : Jvm.MethodName) ∈ WSa := wsa_i 302 _ (by decide +kernel) (by decide +kernel)
theorem kw303 : Jvm.Cond.code ({ cls := "WindCardShips$State", name := "copyFrom", desc := "(LWindCardShips$State;)V" } : Jvm.MethodName) prog_10_method_2_code (2 : Nat) (Option.none : Option Jvm.ClassFile.FieldType) ∈ WSa := wsa_i 303 _ (by decide +kernel) (by decide +kernel)
theorem kw304 : Jvm.Cond.methodLink "WindCardShips$State" (24 : Nat) ({ cls := "WindCardShips$Game", name := "copyFrom", desc := "(LWindCardShips$Game;)V" } : Jvm.MethodName) ∈ WSa := wsa_i 304 _ (by decide +kernel) (by decide +kernel)
theorem kw305 : Jvm.Cond.instanceMethod ({ cls := "WindCardShips$Game", name := "copyFrom", desc := "(LWindCardShips$Game;)V" } : Jvm.MethodName) ∈ WSa := wsa_i 305 _ (by decide +kernel) (by decide +kernel)
theorem kw306 : Jvm.Cond.selects "WindCardShips$Game" ({ cls := "WindCardShips$Game", name := "copyFrom", desc := "(LWindCardShips$Game;)V" } : Jvm.MethodName) ({ cls := "WindCardShips$Game", name := "copyFrom", desc := "(LWindCardShips$Game;)V" } : Jvm.MethodName) ∈ WSa := wsa_i 306 _ (by decide +kernel) (by decide +kernel)
theorem kw307 : Jvm.Cond.code ({ cls := "WindCardShips$Game", name := "copyFrom", desc := "(LWindCardShips$Game;)V" } : Jvm.MethodName) prog_3_method_2_code (3 : Nat) (Option.none : Option Jvm.ClassFile.FieldType) ∈ WSa := wsa_i 307 _ (by decide +kernel) (by decide +kernel)
theorem kw308 : Jvm.Cond.methodLink "WindCardShips$Game" (56 : Nat) ({ cls := "WindCardShips$Captain", name := "copyFrom", desc := "(LWindCardShips$Captain;)V" } : Jvm.MethodName) ∈ WSa := wsa_i 308 _ (by decide +kernel) (by decide +kernel)
theorem kw309 : Jvm.Cond.instanceMethod ({ cls := "WindCardShips$Captain", name := "copyFrom", desc := "(LWindCardShips$Captain;)V" } : Jvm.MethodName) ∈ WSa := wsa_i 309 _ (by decide +kernel) (by decide +kernel)
theorem kw310 : Jvm.Cond.selects "WindCardShips$Captain" ({ cls := "WindCardShips$Captain", name := "copyFrom", desc := "(LWindCardShips$Captain;)V" } : Jvm.MethodName) ({ cls := "WindCardShips$Captain", name := "copyFrom", desc := "(LWindCardShips$Captain;)V" } : Jvm.MethodName) ∈ WSa := wsa_i 310 _ (by decide +kernel) (by decide +kernel)
theorem kw311 : Jvm.Cond.code ({ cls := "WindCardShips$Captain", name := "copyFrom", desc := "(LWindCardShips$Captain;)V" } : Jvm.MethodName) prog_2_method_4_code (2 : Nat) (Option.none : Option Jvm.ClassFile.FieldType) ∈ WSa := wsa_i 311 _ (by decide +kernel) (by decide +kernel)
theorem kw312 : Jvm.Cond.methodLink "WindCardShips$Game" (60 : Nat) ({ cls := "java/lang/System", name := "arraycopy", desc := "(Ljava/lang/Object;ILjava/lang/Object;II)V" } : Jvm.MethodName) ∈ WSa := wsa_i 312 _ (by decide +kernel) (by decide +kernel)
theorem kw313 : Jvm.Cond.static ({ cls := "java/lang/System", name := "arraycopy", desc := "(Ljava/lang/Object;ILjava/lang/Object;II)V" } : Jvm.MethodName) ∈ WSa := wsa_i 313 _ (by decide +kernel) (by decide +kernel)
theorem kw314 : Jvm.Cond.native ({ cls := "java/lang/System", name := "arraycopy", desc := "(Ljava/lang/Object;ILjava/lang/Object;II)V" } : Jvm.MethodName) ∈ WSa := wsa_i 314 _ (by decide +kernel) (by decide +kernel)
theorem kw315 : Jvm.Cond.methodLink "WindCardShips$Game" (66 : Nat) ({ cls := "WindCardShips$Ship", name := "copyFrom", desc := "(LWindCardShips$Ship;)V" } : Jvm.MethodName) ∈ WSa := wsa_i 315 _ (by decide +kernel) (by decide +kernel)
theorem kw316 : Jvm.Cond.instanceMethod ({ cls := "WindCardShips$Ship", name := "copyFrom", desc := "(LWindCardShips$Ship;)V" } : Jvm.MethodName) ∈ WSa := wsa_i 316 _ (by decide +kernel) (by decide +kernel)
theorem kw317 : Jvm.Cond.selects "WindCardShips$Ship" ({ cls := "WindCardShips$Ship", name := "copyFrom", desc := "(LWindCardShips$Ship;)V" } : Jvm.MethodName) ({ cls := "WindCardShips$Ship", name := "copyFrom", desc := "(LWindCardShips$Ship;)V" } : Jvm.MethodName) ∈ WSa := wsa_i 317 _ (by decide +kernel) (by decide +kernel)
theorem kw318 : Jvm.Cond.code ({ cls := "WindCardShips$Ship", name := "copyFrom", desc := "(LWindCardShips$Ship;)V" } : Jvm.MethodName) prog_9_method_3_code (2 : Nat) (Option.none : Option Jvm.ClassFile.FieldType) ∈ WSa := wsa_i 318 _ (by decide +kernel) (by decide +kernel)
theorem kw319 : Jvm.Cond.methodLink "WindCardShips" (45 : Nat) ({ cls := "WindCardShips$Game", name := "placeIsland", desc := "(II)I" } : Jvm.MethodName) ∈ WSa := wsa_i 319 _ (by decide +kernel) (by decide +kernel)
theorem kw320 : Jvm.Cond.instanceMethod ({ cls := "WindCardShips$Game", name := "placeIsland", desc := "(II)I" } : Jvm.MethodName) ∈ WSa := wsa_i 320 _ (by decide +kernel) (by decide +kernel)
theorem kw321 : Jvm.Cond.selects "WindCardShips$Game" ({ cls := "WindCardShips$Game", name := "placeIsland", desc := "(II)I" } : Jvm.MethodName) ({ cls := "WindCardShips$Game", name := "placeIsland", desc := "(II)I" } : Jvm.MethodName) ∈ WSa := wsa_i 321 _ (by decide +kernel) (by decide +kernel)
theorem kw322 : Jvm.Cond.code ({ cls := "WindCardShips$Game", name := "placeIsland", desc := "(II)I" } : Jvm.MethodName) prog_3_method_11_code (3 : Nat) (Option.some Jvm.ClassFile.FieldType.int) ∈ WSa := wsa_i 322 _ (by decide +kernel) (by decide +kernel)
theorem kw323 : Jvm.Cond.methodLink "WindCardShips$Game" (76 : Nat) ({ cls := "WindCardShips$Hexes", name := "exists", desc := "(I)Z" } : Jvm.MethodName) ∈ WSa := wsa_i 323 _ (by decide +kernel) (by decide +kernel)
theorem kw324 : Jvm.Cond.static ({ cls := "WindCardShips$Hexes", name := "exists", desc := "(I)Z" } : Jvm.MethodName) ∈ WSa := wsa_i 324 _ (by decide +kernel) (by decide +kernel)
theorem kw325 : Jvm.Cond.code ({ cls := "WindCardShips$Hexes", name := "exists", desc := "(I)Z" } : Jvm.MethodName) prog_4_method_2_code (1 : Nat) (Option.some Jvm.ClassFile.FieldType.boolean) ∈ WSa := wsa_i 325 _ (by decide +kernel) (by decide +kernel)
theorem kw326 : Jvm.Cond.methodLink "WindCardShips$Game" (83 : Nat) ({ cls := "WindCardShips$Game", name := "shipOn", desc := "(I)LWindCardShips$Ship;" } : Jvm.MethodName) ∈ WSa := wsa_i 326 _ (by decide +kernel) (by decide +kernel)
theorem kw328 : Jvm.Cond.instanceMethod ({ cls := "WindCardShips$Game", name := "shipOn", desc := "(I)LWindCardShips$Ship;" } : Jvm.MethodName) ∈ WSa := wsa_i 328 _ (by decide +kernel) (by decide +kernel)
theorem kw329 : Jvm.Cond.code ({ cls := "WindCardShips$Game", name := "shipOn", desc := "(I)LWindCardShips$Ship;" } : Jvm.MethodName) prog_3_method_6_code (6 : Nat) (Option.some (Jvm.ClassFile.FieldType.object "WindCardShips$Ship")) ∈ WSa := wsa_i 329 _ (by decide +kernel) (by decide +kernel)
theorem kw330 : Jvm.Cond.methodLink "WindCardShips$Game" (69 : Nat) ({ cls := "WindCardShips$Ship", name := "floats", desc := "()Z" } : Jvm.MethodName) ∈ WSa := wsa_i 330 _ (by decide +kernel) (by decide +kernel)
theorem kw331 : Jvm.Cond.instanceMethod ({ cls := "WindCardShips$Ship", name := "floats", desc := "()Z" } : Jvm.MethodName) ∈ WSa := wsa_i 331 _ (by decide +kernel) (by decide +kernel)
theorem kw332 : Jvm.Cond.selects "WindCardShips$Ship" ({ cls := "WindCardShips$Ship", name := "floats", desc := "()Z" } : Jvm.MethodName) ({ cls := "WindCardShips$Ship", name := "floats", desc := "()Z" } : Jvm.MethodName) ∈ WSa := wsa_i 332 _ (by decide +kernel) (by decide +kernel)
theorem kw333 : Jvm.Cond.code ({ cls := "WindCardShips$Ship", name := "floats", desc := "()Z" } : Jvm.MethodName) prog_9_method_4_code (1 : Nat) (Option.some Jvm.ClassFile.FieldType.boolean) ∈ WSa := wsa_i 333 _ (by decide +kernel) (by decide +kernel)
theorem kw334 : Jvm.Cond.methodLink "WindCardShips$Game" (97 : Nat) ({ cls := "WindCardShips$Game", name := "islandCount", desc := "()I" } : Jvm.MethodName) ∈ WSa := wsa_i 334 _ (by decide +kernel) (by decide +kernel)
theorem kw336 : Jvm.Cond.instanceMethod ({ cls := "WindCardShips$Game", name := "islandCount", desc := "()I" } : Jvm.MethodName) ∈ WSa := wsa_i 336 _ (by decide +kernel) (by decide +kernel)
theorem kw337 : Jvm.Cond.code ({ cls := "WindCardShips$Game", name := "islandCount", desc := "()I" } : Jvm.MethodName) prog_3_method_35_code (6 : Nat) (Option.some Jvm.ClassFile.FieldType.int) ∈ WSa := wsa_i 337 _ (by decide +kernel) (by decide +kernel)
theorem kw338 : Jvm.Cond.methodLink "WindCardShips" (51 : Nat) ({ cls := "WindCardShips$History", name := "settle", desc := "(I)I" } : Jvm.MethodName) ∈ WSa := wsa_i 338 _ (by decide +kernel) (by decide +kernel)
theorem kw339 : Jvm.Cond.instanceMethod ({ cls := "WindCardShips$History", name := "settle", desc := "(I)I" } : Jvm.MethodName) ∈ WSa := wsa_i 339 _ (by decide +kernel) (by decide +kernel)
theorem kw340 : Jvm.Cond.selects "WindCardShips$History" ({ cls := "WindCardShips$History", name := "settle", desc := "(I)I" } : Jvm.MethodName) ({ cls := "WindCardShips$History", name := "settle", desc := "(I)I" } : Jvm.MethodName) ∈ WSa := wsa_i 340 _ (by decide +kernel) (by decide +kernel)
theorem kw341 : Jvm.Cond.code ({ cls := "WindCardShips$History", name := "settle", desc := "(I)I" } : Jvm.MethodName) prog_5_method_4_code (4 : Nat) (Option.some Jvm.ClassFile.FieldType.int) ∈ WSa := wsa_i 341 _ (by decide +kernel) (by decide +kernel)
theorem kw342 : Jvm.Cond.methodLink "WindCardShips$History" (30 : Nat) ({ cls := "java/lang/Math", name := "min", desc := "(II)I" } : Jvm.MethodName) ∈ WSa := wsa_i 342 _ (by decide +kernel) (by decide +kernel)
theorem kw343 : Jvm.Cond.static ({ cls := "java/lang/Math", name := "min", desc := "(II)I" } : Jvm.MethodName) ∈ WSa := wsa_i 343 _ (by decide +kernel) (by decide +kernel)
theorem kw344 : Jvm.Cond.code ({ cls := "java/lang/Math", name := "min", desc := "(II)I" } : Jvm.MethodName) prog_14_method_69_code (2 : Nat) (Option.some Jvm.ClassFile.FieldType.int) ∈ WSa := wsa_i 344 _ (by decide +kernel) (by decide +kernel)
theorem kw345 : Jvm.Cond.methodLink "WindCardShipsLaw" (18 : Nat) ({ cls := "WindCardShips", name := "addShip", desc := "(IIIIII)I" } : Jvm.MethodName) ∈ WSa := wsa_i 345 _ (by decide +kernel) (by decide +kernel)
theorem kw346 : Jvm.Cond.instanceMethod ({ cls := "WindCardShips", name := "addShip", desc := "(IIIIII)I" } : Jvm.MethodName) ∈ WSa := wsa_i 346 _ (by decide +kernel) (by decide +kernel)
theorem kw347 : Jvm.Cond.selects "WindCardShips" ({ cls := "WindCardShips", name := "addShip", desc := "(IIIIII)I" } : Jvm.MethodName) ({ cls := "WindCardShips", name := "addShip", desc := "(IIIIII)I" } : Jvm.MethodName) ∈ WSa := wsa_i 347 _ (by decide +kernel) (by decide +kernel)
theorem kw348 : Jvm.Cond.code ({ cls := "WindCardShips", name := "addShip", desc := "(IIIIII)I" } : Jvm.MethodName) prog_1_method_3_code (7 : Nat) (Option.some Jvm.ClassFile.FieldType.int) ∈ WSa := wsa_i 348 _ (by decide +kernel) (by decide +kernel)
theorem kw349 : Jvm.Cond.methodLink "WindCardShips" (55 : Nat) ({ cls := "WindCardShips$Game", name := "launch", desc := "(IIIIII)I" } : Jvm.MethodName) ∈ WSa := wsa_i 349 _ (by decide +kernel) (by decide +kernel)
theorem kw350 : Jvm.Cond.instanceMethod ({ cls := "WindCardShips$Game", name := "launch", desc := "(IIIIII)I" } : Jvm.MethodName) ∈ WSa := wsa_i 350 _ (by decide +kernel) (by decide +kernel)
theorem kw351 : Jvm.Cond.selects "WindCardShips$Game" ({ cls := "WindCardShips$Game", name := "launch", desc := "(IIIIII)I" } : Jvm.MethodName) ({ cls := "WindCardShips$Game", name := "launch", desc := "(IIIIII)I" } : Jvm.MethodName) ∈ WSa := wsa_i 351 _ (by decide +kernel) (by decide +kernel)
theorem kw352 : Jvm.Cond.code ({ cls := "WindCardShips$Game", name := "launch", desc := "(IIIIII)I" } : Jvm.MethodName) prog_3_method_12_code (8 : Nat) (Option.some Jvm.ClassFile.FieldType.int) ∈ WSa := wsa_i 352 _ (by decide +kernel) (by decide +kernel)
theorem kw353 : Jvm.Cond.methodLink "WindCardShips$Game" (101 : Nat) ({ cls := "WindCardShips$Captain", name := "exists", desc := "(I)Z" } : Jvm.MethodName) ∈ WSa := wsa_i 353 _ (by decide +kernel) (by decide +kernel)
theorem kw354 : Jvm.Cond.static ({ cls := "WindCardShips$Captain", name := "exists", desc := "(I)Z" } : Jvm.MethodName) ∈ WSa := wsa_i 354 _ (by decide +kernel) (by decide +kernel)
theorem kw355 : Jvm.Cond.code ({ cls := "WindCardShips$Captain", name := "exists", desc := "(I)Z" } : Jvm.MethodName) prog_2_method_2_code (1 : Nat) (Option.some Jvm.ClassFile.FieldType.boolean) ∈ WSa := wsa_i 355 _ (by decide +kernel) (by decide +kernel)
theorem kw356 : Jvm.Cond.methodLink "WindCardShips$Game" (102 : Nat) ({ cls := "WindCardShips$Hexes", name := "isDirection", desc := "(I)Z" } : Jvm.MethodName) ∈ WSa := wsa_i 356 _ (by decide +kernel) (by decide +kernel)
theorem kw357 : Jvm.Cond.static ({ cls := "WindCardShips$Hexes", name := "isDirection", desc := "(I)Z" } : Jvm.MethodName) ∈ WSa := wsa_i 357 _ (by decide +kernel) (by decide +kernel)
theorem kw358 : Jvm.Cond.code ({ cls := "WindCardShips$Hexes", name := "isDirection", desc := "(I)Z" } : Jvm.MethodName) prog_4_method_3_code (1 : Nat) (Option.some Jvm.ClassFile.FieldType.boolean) ∈ WSa := wsa_i 358 _ (by decide +kernel) (by decide +kernel)
theorem kw359 : Jvm.Cond.methodLink "WindCardShips$Game" (91 : Nat) ({ cls := "WindCardShips$Game", name := "isFree", desc := "(I)Z" } : Jvm.MethodName) ∈ WSa := wsa_i 359 _ (by decide +kernel) (by decide +kernel)
theorem kw361 : Jvm.Cond.instanceMethod ({ cls := "WindCardShips$Game", name := "isFree", desc := "(I)Z" } : Jvm.MethodName) ∈ WSa := wsa_i 361 _ (by decide +kernel) (by decide +kernel)
theorem kw362 : Jvm.Cond.code ({ cls := "WindCardShips$Game", name := "isFree", desc := "(I)Z" } : Jvm.MethodName) prog_3_method_8_code (2 : Nat) (Option.some Jvm.ClassFile.FieldType.boolean) ∈ WSa := wsa_i 362 _ (by decide +kernel) (by decide +kernel)
theorem kw363 : Jvm.Cond.methodLink "WindCardShips$Game" (80 : Nat) ({ cls := "WindCardShips$Game", name := "isIsland", desc := "(I)Z" } : Jvm.MethodName) ∈ WSa := wsa_i 363 _ (by decide +kernel) (by decide +kernel)
theorem kw365 : Jvm.Cond.instanceMethod ({ cls := "WindCardShips$Game", name := "isIsland", desc := "(I)Z" } : Jvm.MethodName) ∈ WSa := wsa_i 365 _ (by decide +kernel) (by decide +kernel)
theorem kw366 : Jvm.Cond.code ({ cls := "WindCardShips$Game", name := "isIsland", desc := "(I)Z" } : Jvm.MethodName) prog_3_method_7_code (2 : Nat) (Option.some Jvm.ClassFile.FieldType.boolean) ∈ WSa := wsa_i 366 _ (by decide +kernel) (by decide +kernel)
theorem kw367 : Jvm.Cond.methodLink "WindCardShipsLaw" (23 : Nat) ({ cls := "WindCardShips", name := "setTimber", desc := "(II)I" } : Jvm.MethodName) ∈ WSa := wsa_i 367 _ (by decide +kernel) (by decide +kernel)
theorem kw368 : Jvm.Cond.instanceMethod ({ cls := "WindCardShips", name := "setTimber", desc := "(II)I" } : Jvm.MethodName) ∈ WSa := wsa_i 368 _ (by decide +kernel) (by decide +kernel)
theorem kw369 : Jvm.Cond.selects "WindCardShips" ({ cls := "WindCardShips", name := "setTimber", desc := "(II)I" } : Jvm.MethodName) ({ cls := "WindCardShips", name := "setTimber", desc := "(II)I" } : Jvm.MethodName) ∈ WSa := wsa_i 369 _ (by decide +kernel) (by decide +kernel)
theorem kw370 : Jvm.Cond.code ({ cls := "WindCardShips", name := "setTimber", desc := "(II)I" } : Jvm.MethodName) prog_1_method_4_code (3 : Nat) (Option.some Jvm.ClassFile.FieldType.int) ∈ WSa := wsa_i 370 _ (by decide +kernel) (by decide +kernel)
theorem kw371 : Jvm.Cond.methodLink "WindCardShips" (59 : Nat) ({ cls := "WindCardShips$Game", name := "stockTimber", desc := "(II)I" } : Jvm.MethodName) ∈ WSa := wsa_i 371 _ (by decide +kernel) (by decide +kernel)
theorem kw372 : Jvm.Cond.instanceMethod ({ cls := "WindCardShips$Game", name := "stockTimber", desc := "(II)I" } : Jvm.MethodName) ∈ WSa := wsa_i 372 _ (by decide +kernel) (by decide +kernel)
theorem kw373 : Jvm.Cond.selects "WindCardShips$Game" ({ cls := "WindCardShips$Game", name := "stockTimber", desc := "(II)I" } : Jvm.MethodName) ({ cls := "WindCardShips$Game", name := "stockTimber", desc := "(II)I" } : Jvm.MethodName) ∈ WSa := wsa_i 373 _ (by decide +kernel) (by decide +kernel)
theorem kw374 : Jvm.Cond.code ({ cls := "WindCardShips$Game", name := "stockTimber", desc := "(II)I" } : Jvm.MethodName) prog_3_method_13_code (5 : Nat) (Option.some Jvm.ClassFile.FieldType.int) ∈ WSa := wsa_i 374 _ (by decide +kernel) (by decide +kernel)
theorem kw375 : Jvm.Cond.methodLink "WindCardShips$Game" (123 : Nat) ({ cls := "WindCardShips$Game", name := "captainOf", desc := "(I)LWindCardShips$Captain;" } : Jvm.MethodName) ∈ WSa := wsa_i 375 _ (by decide +kernel) (by decide +kernel)
theorem kw377 : Jvm.Cond.instanceMethod ({ cls := "WindCardShips$Game", name := "captainOf", desc := "(I)LWindCardShips$Captain;" } : Jvm.MethodName) ∈ WSa := wsa_i 377 _ (by decide +kernel) (by decide +kernel)
theorem kw378 : Jvm.Cond.code ({ cls := "WindCardShips$Game", name := "captainOf", desc := "(I)LWindCardShips$Captain;" } : Jvm.MethodName) prog_3_method_4_code (2 : Nat) (Option.some (Jvm.ClassFile.FieldType.object "WindCardShips$Captain")) ∈ WSa := wsa_i 378 _ (by decide +kernel) (by decide +kernel)
theorem kw379 : Jvm.Cond.methodLink "WindCardShipsLaw" (27 : Nat) ({ cls := "WindCardShips", name := "tell", desc := "(II)I" } : Jvm.MethodName) ∈ WSa := wsa_i 379 _ (by decide +kernel) (by decide +kernel)
theorem kw380 : Jvm.Cond.instanceMethod ({ cls := "WindCardShips", name := "tell", desc := "(II)I" } : Jvm.MethodName) ∈ WSa := wsa_i 380 _ (by decide +kernel) (by decide +kernel)
theorem kw381 : Jvm.Cond.selects "WindCardShips" ({ cls := "WindCardShips", name := "tell", desc := "(II)I" } : Jvm.MethodName) ({ cls := "WindCardShips", name := "tell", desc := "(II)I" } : Jvm.MethodName) ∈ WSa := wsa_i 381 _ (by decide +kernel) (by decide +kernel)
theorem kw382 : Jvm.Cond.code ({ cls := "WindCardShips", name := "tell", desc := "(II)I" } : Jvm.MethodName) prog_1_method_5_code (3 : Nat) (Option.some Jvm.ClassFile.FieldType.int) ∈ WSa := wsa_i 382 _ (by decide +kernel) (by decide +kernel)
theorem kw383 : Jvm.Cond.methodLink "WindCardShips" (62 : Nat) ({ cls := "WindCardShips$Game", name := "tellCard", desc := "(II)I" } : Jvm.MethodName) ∈ WSa := wsa_i 383 _ (by decide +kernel) (by decide +kernel)
theorem kw384 : Jvm.Cond.instanceMethod ({ cls := "WindCardShips$Game", name := "tellCard", desc := "(II)I" } : Jvm.MethodName) ∈ WSa := wsa_i 384 _ (by decide +kernel) (by decide +kernel)
theorem kw385 : Jvm.Cond.selects "WindCardShips$Game" ({ cls := "WindCardShips$Game", name := "tellCard", desc := "(II)I" } : Jvm.MethodName) ({ cls := "WindCardShips$Game", name := "tellCard", desc := "(II)I" } : Jvm.MethodName) ∈ WSa := wsa_i 385 _ (by decide +kernel) (by decide +kernel)
theorem kw386 : Jvm.Cond.code ({ cls := "WindCardShips$Game", name := "tellCard", desc := "(II)I" } : Jvm.MethodName) prog_3_method_14_code (4 : Nat) (Option.some Jvm.ClassFile.FieldType.int) ∈ WSa := wsa_i 386 _ (by decide +kernel) (by decide +kernel)
theorem kw387 : Jvm.Cond.methodLink "WindCardShips$Game" (130 : Nat) ({ cls := "WindCardShips$Captain", name := "isCard", desc := "(I)Z" } : Jvm.MethodName) ∈ WSa := wsa_i 387 _ (by decide +kernel) (by decide +kernel)
theorem kw388 : Jvm.Cond.static ({ cls := "WindCardShips$Captain", name := "isCard", desc := "(I)Z" } : Jvm.MethodName) ∈ WSa := wsa_i 388 _ (by decide +kernel) (by decide +kernel)
theorem kw389 : Jvm.Cond.code ({ cls := "WindCardShips$Captain", name := "isCard", desc := "(I)Z" } : Jvm.MethodName) prog_2_method_3_code (1 : Nat) (Option.some Jvm.ClassFile.FieldType.boolean) ∈ WSa := wsa_i 389 _ (by decide +kernel) (by decide +kernel)
theorem kw390 : Jvm.Cond.methodLink "WindCardShips$Game" (136 : Nat) ({ cls := "WindCardShips$Captain", name := "holds", desc := "(I)Z" } : Jvm.MethodName) ∈ WSa := wsa_i 390 _ (by decide +kernel) (by decide +kernel)
theorem kw391 : Jvm.Cond.instanceMethod ({ cls := "WindCardShips$Captain", name := "holds", desc := "(I)Z" } : Jvm.MethodName) ∈ WSa := wsa_i 391 _ (by decide +kernel) (by decide +kernel)
theorem kw392 : Jvm.Cond.selects "WindCardShips$Captain" ({ cls := "WindCardShips$Captain", name := "holds", desc := "(I)Z" } : Jvm.MethodName) ({ cls := "WindCardShips$Captain", name := "holds", desc := "(I)Z" } : Jvm.MethodName) ∈ WSa := wsa_i 392 _ (by decide +kernel) (by decide +kernel)
theorem kw393 : Jvm.Cond.code ({ cls := "WindCardShips$Captain", name := "holds", desc := "(I)Z" } : Jvm.MethodName) prog_2_method_5_code (2 : Nat) (Option.some Jvm.ClassFile.FieldType.boolean) ∈ WSa := wsa_i 393 _ (by decide +kernel) (by decide +kernel)
theorem kw394 : Jvm.Cond.methodLink "WindCardShips$Captain" (21 : Nat) ({ cls := "WindCardShips$Captain", name := "isCard", desc := "(I)Z" } : Jvm.MethodName) ∈ WSa := wsa_i 394 _ (by decide +kernel) (by decide +kernel)
theorem kw395 : Jvm.Cond.methodLink "WindCardShips$Game" (139 : Nat) ({ cls := "WindCardShips$Game", name := "beginMoves", desc := "()V" } : Jvm.MethodName) ∈ WSa := wsa_i 395 _ (by decide +kernel) (by decide +kernel)
theorem kw397 : Jvm.Cond.instanceMethod ({ cls := "WindCardShips$Game", name := "beginMoves", desc := "()V" } : Jvm.MethodName) ∈ WSa := wsa_i 397 _ (by decide +kernel) (by decide +kernel)
theorem kw398 : Jvm.Cond.code ({ cls := "WindCardShips$Game", name := "beginMoves", desc := "()V" } : Jvm.MethodName) prog_3_method_15_code (2 : Nat) (Option.none : Option Jvm.ClassFile.FieldType) ∈ WSa := wsa_i 398 _ (by decide +kernel) (by decide +kernel)
theorem kw399 : Jvm.Cond.methodLink "WindCardShips$Game" (145 : Nat) ({ cls := "WindCardShips$Game", name := "directionBy", desc := "(I)I" } : Jvm.MethodName) ∈ WSa := wsa_i 399 _ (by decide +kernel) (by decide +kernel)
theorem kw400 : Jvm.Cond.instanceMethod ({ cls := "WindCardShips$Game", name := "directionBy", desc := "(I)I" } : Jvm.MethodName) ∈ WSa := wsa_i 400 _ (by decide +kernel) (by decide +kernel)
theorem kw401 : Jvm.Cond.selects "WindCardShips$Game" ({ cls := "WindCardShips$Game", name := "directionBy", desc := "(I)I" } : Jvm.MethodName) ({ cls := "WindCardShips$Game", name := "directionBy", desc := "(I)I" } : Jvm.MethodName) ∈ WSa := wsa_i 401 _ (by decide +kernel) (by decide +kernel)
theorem kw402 : Jvm.Cond.code ({ cls := "WindCardShips$Game", name := "directionBy", desc := "(I)I" } : Jvm.MethodName) prog_3_method_16_code (2 : Nat) (Option.some Jvm.ClassFile.FieldType.int) ∈ WSa := wsa_i 402 _ (by decide +kernel) (by decide +kernel)
theorem kw403 : Jvm.Cond.methodLink "WindCardShips$Game" (149 : Nat) ({ cls := "WindCardShips$Game", name := "strengthBy", desc := "(I)I" } : Jvm.MethodName) ∈ WSa := wsa_i 403 _ (by decide +kernel) (by decide +kernel)
theorem kw404 : Jvm.Cond.static ({ cls := "WindCardShips$Game", name := "strengthBy", desc := "(I)I" } : Jvm.MethodName) ∈ WSa := wsa_i 404 _ (by decide +kernel) (by decide +kernel)
theorem kw405 : Jvm.Cond.code ({ cls := "WindCardShips$Game", name := "strengthBy", desc := "(I)I" } : Jvm.MethodName) prog_3_method_17_code (1 : Nat) (Option.some Jvm.ClassFile.FieldType.int) ∈ WSa := wsa_i 405 _ (by decide +kernel) (by decide +kernel)
theorem kw406 : Jvm.Cond.methodLink "WindCardShips$Game" (152 : Nat) ({ cls := "WindCardShips$Captain", name := "layDownCard", desc := "()V" } : Jvm.MethodName) ∈ WSa := wsa_i 406 _ (by decide +kernel) (by decide +kernel)
theorem kw407 : Jvm.Cond.instanceMethod ({ cls := "WindCardShips$Captain", name := "layDownCard", desc := "()V" } : Jvm.MethodName) ∈ WSa := wsa_i 407 _ (by decide +kernel) (by decide +kernel)
theorem kw408 : Jvm.Cond.selects "WindCardShips$Captain" ({ cls := "WindCardShips$Captain", name := "layDownCard", desc := "()V" } : Jvm.MethodName) ({ cls := "WindCardShips$Captain", name := "layDownCard", desc := "()V" } : Jvm.MethodName) ∈ WSa := wsa_i 408 _ (by decide +kernel) (by decide +kernel)
theorem kw409 : Jvm.Cond.code ({ cls := "WindCardShips$Captain", name := "layDownCard", desc := "()V" } : Jvm.MethodName) prog_2_method_6_code (1 : Nat) (Option.none : Option Jvm.ClassFile.FieldType) ∈ WSa := wsa_i 409 _ (by decide +kernel) (by decide +kernel)
theorem kw410 : Jvm.Cond.methodLink "WindCardShips$Captain" (25 : Nat) ({ cls := "WindCardShips$Captain", name := "holds", desc := "(I)Z" } : Jvm.MethodName) ∈ WSa := wsa_i 410 _ (by decide +kernel) (by decide +kernel)
theorem kw411 : Jvm.Cond.methodLink "WindCardShips$Game" (142 : Nat) ({ cls := "WindCardShips$Game", name := "toldSet", desc := "()I" } : Jvm.MethodName) ∈ WSa := wsa_i 411 _ (by decide +kernel) (by decide +kernel)
theorem kw413 : Jvm.Cond.instanceMethod ({ cls := "WindCardShips$Game", name := "toldSet", desc := "()I" } : Jvm.MethodName) ∈ WSa := wsa_i 413 _ (by decide +kernel) (by decide +kernel)
theorem kw414 : Jvm.Cond.code ({ cls := "WindCardShips$Game", name := "toldSet", desc := "()I" } : Jvm.MethodName) prog_3_method_18_code (1 : Nat) (Option.some Jvm.ClassFile.FieldType.int) ∈ WSa := wsa_i 414 _ (by decide +kernel) (by decide +kernel)
theorem kw415 : Jvm.Cond.methodLink "WindCardShipsLaw" (31 : Nat) ({ cls := "WindCardShips", name := "sail", desc := "(II)I" } : Jvm.MethodName) ∈ WSa := wsa_i 415 _ (by decide +kernel) (by decide +kernel)
theorem kw416 : Jvm.Cond.instanceMethod ({ cls := "WindCardShips", name := "sail", desc := "(II)I" } : Jvm.MethodName) ∈ WSa := wsa_i 416 _ (by decide +kernel) (by decide +kernel)
theorem kw417 : Jvm.Cond.selects "WindCardShips" ({ cls := "WindCardShips", name := "sail", desc := "(II)I" } : Jvm.MethodName) ({ cls := "WindCardShips", name := "sail", desc := "(II)I" } : Jvm.MethodName) ∈ WSa := wsa_i 417 _ (by decide +kernel) (by decide +kernel)
theorem kw418 : Jvm.Cond.code ({ cls := "WindCardShips", name := "sail", desc := "(II)I" } : Jvm.MethodName) prog_1_method_6_code (3 : Nat) (Option.some Jvm.ClassFile.FieldType.int) ∈ WSa := wsa_i 418 _ (by decide +kernel) (by decide +kernel)
theorem kw419 : Jvm.Cond.methodLink "WindCardShips" (65 : Nat) ({ cls := "WindCardShips$Game", name := "sailAlong", desc := "(II)I" } : Jvm.MethodName) ∈ WSa := wsa_i 419 _ (by decide +kernel) (by decide +kernel)
theorem kw420 : Jvm.Cond.instanceMethod ({ cls := "WindCardShips$Game", name := "sailAlong", desc := "(II)I" } : Jvm.MethodName) ∈ WSa := wsa_i 420 _ (by decide +kernel) (by decide +kernel)
theorem kw421 : Jvm.Cond.selects "WindCardShips$Game" ({ cls := "WindCardShips$Game", name := "sailAlong", desc := "(II)I" } : Jvm.MethodName) ({ cls := "WindCardShips$Game", name := "sailAlong", desc := "(II)I" } : Jvm.MethodName) ∈ WSa := wsa_i 421 _ (by decide +kernel) (by decide +kernel)
theorem kw422 : Jvm.Cond.code ({ cls := "WindCardShips$Game", name := "sailAlong", desc := "(II)I" } : Jvm.MethodName) prog_3_method_20_code (8 : Nat) (Option.some Jvm.ClassFile.FieldType.int) ∈ WSa := wsa_i 422 _ (by decide +kernel) (by decide +kernel)
theorem kw423 : Jvm.Cond.methodLink "WindCardShips$Game" (158 : Nat) ({ cls := "WindCardShips$Game", name := "known", desc := "(I)LWindCardShips$Ship;" } : Jvm.MethodName) ∈ WSa := wsa_i 423 _ (by decide +kernel) (by decide +kernel)
theorem kw424 : Jvm.Cond.instanceMethod ({ cls := "WindCardShips$Game", name := "known", desc := "(I)LWindCardShips$Ship;" } : Jvm.MethodName) ∈ WSa := wsa_i 424 _ (by decide +kernel) (by decide +kernel)
theorem kw425 : Jvm.Cond.selects "WindCardShips$Game" ({ cls := "WindCardShips$Game", name := "known", desc := "(I)LWindCardShips$Ship;" } : Jvm.MethodName) ({ cls := "WindCardShips$Game", name := "known", desc := "(I)LWindCardShips$Ship;" } : Jvm.MethodName) ∈ WSa := wsa_i 425 _ (by decide +kernel) (by decide +kernel)
theorem kw426 : Jvm.Cond.code ({ cls := "WindCardShips$Game", name := "known", desc := "(I)LWindCardShips$Ship;" } : Jvm.MethodName) prog_3_method_5_code (2 : Nat) (Option.some (Jvm.ClassFile.FieldType.object "WindCardShips$Ship")) ∈ WSa := wsa_i 426 _ (by decide +kernel) (by decide +kernel)
theorem kw427 : Jvm.Cond.methodLink "WindCardShips$Game" (161 : Nat) ({ cls := "WindCardShips$Path", name := "isPath", desc := "(I)Z" } : Jvm.MethodName) ∈ WSa := wsa_i 427 _ (by decide +kernel) (by decide +kernel)
theorem kw428 : Jvm.Cond.static ({ cls := "WindCardShips$Path", name := "isPath", desc := "(I)Z" } : Jvm.MethodName) ∈ WSa := wsa_i 428 _ (by decide +kernel) (by decide +kernel)
theorem kw429 : Jvm.Cond.code ({ cls := "WindCardShips$Path", name := "isPath", desc := "(I)Z" } : Jvm.MethodName) prog_7_method_2_code (3 : Nat) (Option.some Jvm.ClassFile.FieldType.boolean) ∈ WSa := wsa_i 429 _ (by decide +kernel) (by decide +kernel)
theorem kw430 : Jvm.Cond.constant "WindCardShips$Path" (9 : Nat) (999999 : Int32) ∈ WSa := wsa_i 430 _ (by decide +kernel) (by decide +kernel)
theorem kw431 : Jvm.Cond.methodLink "WindCardShips$Game" (166 : Nat) ({ cls := "WindCardShips$Ship", name := "has", desc := "(I)Z" } : Jvm.MethodName) ∈ WSa := wsa_i 431 _ (by decide +kernel) (by decide +kernel)
theorem kw432 : Jvm.Cond.instanceMethod ({ cls := "WindCardShips$Ship", name := "has", desc := "(I)Z" } : Jvm.MethodName) ∈ WSa := wsa_i 432 _ (by decide +kernel) (by decide +kernel)
theorem kw433 : Jvm.Cond.selects "WindCardShips$Ship" ({ cls := "WindCardShips$Ship", name := "has", desc := "(I)Z" } : Jvm.MethodName) ({ cls := "WindCardShips$Ship", name := "has", desc := "(I)Z" } : Jvm.MethodName) ∈ WSa := wsa_i 433 _ (by decide +kernel) (by decide +kernel)
theorem kw434 : Jvm.Cond.code ({ cls := "WindCardShips$Ship", name := "has", desc := "(I)Z" } : Jvm.MethodName) prog_9_method_6_code (2 : Nat) (Option.some Jvm.ClassFile.FieldType.boolean) ∈ WSa := wsa_i 434 _ (by decide +kernel) (by decide +kernel)
theorem kw435 : Jvm.Cond.methodLink "WindCardShips$Game" (169 : Nat) ({ cls := "WindCardShips$Path", name := "stepsOf", desc := "(I)I" } : Jvm.MethodName) ∈ WSa := wsa_i 435 _ (by decide +kernel) (by decide +kernel)
theorem kw436 : Jvm.Cond.static ({ cls := "WindCardShips$Path", name := "stepsOf", desc := "(I)I" } : Jvm.MethodName) ∈ WSa := wsa_i 436 _ (by decide +kernel) (by decide +kernel)
theorem kw437 : Jvm.Cond.code ({ cls := "WindCardShips$Path", name := "stepsOf", desc := "(I)I" } : Jvm.MethodName) prog_7_method_3_code (3 : Nat) (Option.some Jvm.ClassFile.FieldType.int) ∈ WSa := wsa_i 437 _ (by decide +kernel) (by decide +kernel)
theorem kw438 : Jvm.Cond.methodLink "WindCardShips$Game" (172 : Nat) ({ cls := "WindCardShips$Game", name := "stepsNow", desc := "(LWindCardShips$Ship;)I" } : Jvm.MethodName) ∈ WSa := wsa_i 438 _ (by decide +kernel) (by decide +kernel)
theorem kw439 : Jvm.Cond.instanceMethod ({ cls := "WindCardShips$Game", name := "stepsNow", desc := "(LWindCardShips$Ship;)I" } : Jvm.MethodName) ∈ WSa := wsa_i 439 _ (by decide +kernel) (by decide +kernel)
theorem kw440 : Jvm.Cond.selects "WindCardShips$Game" ({ cls := "WindCardShips$Game", name := "stepsNow", desc := "(LWindCardShips$Ship;)I" } : Jvm.MethodName) ({ cls := "WindCardShips$Game", name := "stepsNow", desc := "(LWindCardShips$Ship;)I" } : Jvm.MethodName) ∈ WSa := wsa_i 440 _ (by decide +kernel) (by decide +kernel)
theorem kw441 : Jvm.Cond.code ({ cls := "WindCardShips$Game", name := "stepsNow", desc := "(LWindCardShips$Ship;)I" } : Jvm.MethodName) prog_3_method_19_code (2 : Nat) (Option.some Jvm.ClassFile.FieldType.int) ∈ WSa := wsa_i 441 _ (by decide +kernel) (by decide +kernel)
theorem kw442 : Jvm.Cond.methodLink "WindCardShips$Game" (155 : Nat) ({ cls := "WindCardShips$Ship", name := "stepsBy", desc := "(II)I" } : Jvm.MethodName) ∈ WSa := wsa_i 442 _ (by decide +kernel) (by decide +kernel)
theorem kw443 : Jvm.Cond.instanceMethod ({ cls := "WindCardShips$Ship", name := "stepsBy", desc := "(II)I" } : Jvm.MethodName) ∈ WSa := wsa_i 443 _ (by decide +kernel) (by decide +kernel)
theorem kw444 : Jvm.Cond.selects "WindCardShips$Ship" ({ cls := "WindCardShips$Ship", name := "stepsBy", desc := "(II)I" } : Jvm.MethodName) ({ cls := "WindCardShips$Ship", name := "stepsBy", desc := "(II)I" } : Jvm.MethodName) ∈ WSa := wsa_i 444 _ (by decide +kernel) (by decide +kernel)
theorem kw445 : Jvm.Cond.code ({ cls := "WindCardShips$Ship", name := "stepsBy", desc := "(II)I" } : Jvm.MethodName) prog_9_method_7_code (3 : Nat) (Option.some Jvm.ClassFile.FieldType.int) ∈ WSa := wsa_i 445 _ (by decide +kernel) (by decide +kernel)
theorem kw446 : Jvm.Cond.methodLink "WindCardShips$Ship" (48 : Nat) ({ cls := "WindCardShips$Ship", name := "floats", desc := "()Z" } : Jvm.MethodName) ∈ WSa := wsa_i 446 _ (by decide +kernel) (by decide +kernel)
theorem kw447 : Jvm.Cond.methodLink "WindCardShips$Ship" (52 : Nat) ({ cls := "WindCardShips$Ship", name := "isGrappled", desc := "()Z" } : Jvm.MethodName) ∈ WSa := wsa_i 447 _ (by decide +kernel) (by decide +kernel)
theorem kw448 : Jvm.Cond.instanceMethod ({ cls := "WindCardShips$Ship", name := "isGrappled", desc := "()Z" } : Jvm.MethodName) ∈ WSa := wsa_i 448 _ (by decide +kernel) (by decide +kernel)
theorem kw449 : Jvm.Cond.selects "WindCardShips$Ship" ({ cls := "WindCardShips$Ship", name := "isGrappled", desc := "()Z" } : Jvm.MethodName) ({ cls := "WindCardShips$Ship", name := "isGrappled", desc := "()Z" } : Jvm.MethodName) ∈ WSa := wsa_i 449 _ (by decide +kernel) (by decide +kernel)
theorem kw450 : Jvm.Cond.code ({ cls := "WindCardShips$Ship", name := "isGrappled", desc := "()Z" } : Jvm.MethodName) prog_9_method_5_code (1 : Nat) (Option.some Jvm.ClassFile.FieldType.boolean) ∈ WSa := wsa_i 450 _ (by decide +kernel) (by decide +kernel)
theorem kw451 : Jvm.Cond.methodLink "WindCardShips$Ship" (55 : Nat) ({ cls := "WindCardShips$Ship", name := "speedFactor", desc := "(I)I" } : Jvm.MethodName) ∈ WSa := wsa_i 451 _ (by decide +kernel) (by decide +kernel)
theorem kw453 : Jvm.Cond.instanceMethod ({ cls := "WindCardShips$Ship", name := "speedFactor", desc := "(I)I" } : Jvm.MethodName) ∈ WSa := wsa_i 453 _ (by decide +kernel) (by decide +kernel)
theorem kw454 : Jvm.Cond.code ({ cls := "WindCardShips$Ship", name := "speedFactor", desc := "(I)I" } : Jvm.MethodName) prog_9_method_8_code (3 : Nat) (Option.some Jvm.ClassFile.FieldType.int) ∈ WSa := wsa_i 454 _ (by decide +kernel) (by decide +kernel)
theorem kw455 : Jvm.Cond.methodLink "WindCardShips$Ship" (59 : Nat) ({ cls := "java/lang/Math", name := "min", desc := "(II)I" } : Jvm.MethodName) ∈ WSa := wsa_i 455 _ (by decide +kernel) (by decide +kernel)
theorem kw456 : Jvm.Cond.methodLink "WindCardShips$Game" (176 : Nat) ({ cls := "WindCardShips$Path", name := "unitOf", desc := "(I)I" } : Jvm.MethodName) ∈ WSa := wsa_i 456 _ (by decide +kernel) (by decide +kernel)
theorem kw457 : Jvm.Cond.static ({ cls := "WindCardShips$Path", name := "unitOf", desc := "(I)I" } : Jvm.MethodName) ∈ WSa := wsa_i 457 _ (by decide +kernel) (by decide +kernel)
theorem kw458 : Jvm.Cond.code ({ cls := "WindCardShips$Path", name := "unitOf", desc := "(I)I" } : Jvm.MethodName) prog_7_method_4_code (3 : Nat) (Option.some Jvm.ClassFile.FieldType.int) ∈ WSa := wsa_i 458 _ (by decide +kernel) (by decide +kernel)
theorem kw459 : Jvm.Cond.methodLink "WindCardShips$Game" (179 : Nat) ({ cls := "WindCardShips$Path", name := "turned", desc := "(II)I" } : Jvm.MethodName) ∈ WSa := wsa_i 459 _ (by decide +kernel) (by decide +kernel)
theorem kw460 : Jvm.Cond.static ({ cls := "WindCardShips$Path", name := "turned", desc := "(II)I" } : Jvm.MethodName) ∈ WSa := wsa_i 460 _ (by decide +kernel) (by decide +kernel)
theorem kw461 : Jvm.Cond.code ({ cls := "WindCardShips$Path", name := "turned", desc := "(II)I" } : Jvm.MethodName) prog_7_method_5_code (2 : Nat) (Option.some Jvm.ClassFile.FieldType.int) ∈ WSa := wsa_i 461 _ (by decide +kernel) (by decide +kernel)
theorem kw462 : Jvm.Cond.methodLink "WindCardShips$Game" (182 : Nat) ({ cls := "WindCardShips$Game", name := "hexAhead", desc := "(LWindCardShips$Ship;II)I" } : Jvm.MethodName) ∈ WSa := wsa_i 462 _ (by decide +kernel) (by decide +kernel)
theorem kw463 : Jvm.Cond.instanceMethod ({ cls := "WindCardShips$Game", name := "hexAhead", desc := "(LWindCardShips$Ship;II)I" } : Jvm.MethodName) ∈ WSa := wsa_i 463 _ (by decide +kernel) (by decide +kernel)
theorem kw464 : Jvm.Cond.selects "WindCardShips$Game" ({ cls := "WindCardShips$Game", name := "hexAhead", desc := "(LWindCardShips$Ship;II)I" } : Jvm.MethodName) ({ cls := "WindCardShips$Game", name := "hexAhead", desc := "(LWindCardShips$Ship;II)I" } : Jvm.MethodName) ∈ WSa := wsa_i 464 _ (by decide +kernel) (by decide +kernel)
theorem kw465 : Jvm.Cond.code ({ cls := "WindCardShips$Game", name := "hexAhead", desc := "(LWindCardShips$Ship;II)I" } : Jvm.MethodName) prog_3_method_9_code (6 : Nat) (Option.some Jvm.ClassFile.FieldType.int) ∈ WSa := wsa_i 465 _ (by decide +kernel) (by decide +kernel)
theorem kw466 : Jvm.Cond.methodLink "WindCardShips$Game" (87 : Nat) ({ cls := "WindCardShips$Hexes", name := "next", desc := "(II)I" } : Jvm.MethodName) ∈ WSa := wsa_i 466 _ (by decide +kernel) (by decide +kernel)
theorem kw467 : Jvm.Cond.static ({ cls := "WindCardShips$Hexes", name := "next", desc := "(II)I" } : Jvm.MethodName) ∈ WSa := wsa_i 467 _ (by decide +kernel) (by decide +kernel)
theorem kw468 : Jvm.Cond.code ({ cls := "WindCardShips$Hexes", name := "next", desc := "(II)I" } : Jvm.MethodName) prog_4_method_4_code (5 : Nat) (Option.some Jvm.ClassFile.FieldType.int) ∈ WSa := wsa_i 468 _ (by decide +kernel) (by decide +kernel)
theorem kw469 : Jvm.Cond.methodLink "WindCardShips$Hexes" (11 : Nat) ({ cls := "WindCardShips$Hexes", name := "exists", desc := "(I)Z" } : Jvm.MethodName) ∈ WSa := wsa_i 469 _ (by decide +kernel) (by decide +kernel)
theorem kw470 : Jvm.Cond.methodLink "WindCardShips$Hexes" (15 : Nat) ({ cls := "WindCardShips$Hexes", name := "isDirection", desc := "(I)Z" } : Jvm.MethodName) ∈ WSa := wsa_i 470 _ (by decide +kernel) (by decide +kernel)
theorem kw471 : Jvm.Cond.methodLink "WindCardShips$Hexes" (18 : Nat) ({ cls := "WindCardShips$Hexes", name := "rowStep", desc := "(I)I" } : Jvm.MethodName) ∈ WSa := wsa_i 471 _ (by decide +kernel) (by decide +kernel)
theorem kw472 : Jvm.Cond.static ({ cls := "WindCardShips$Hexes", name := "rowStep", desc := "(I)I" } : Jvm.MethodName) ∈ WSa := wsa_i 472 _ (by decide +kernel) (by decide +kernel)
theorem kw473 : Jvm.Cond.code ({ cls := "WindCardShips$Hexes", name := "rowStep", desc := "(I)I" } : Jvm.MethodName) prog_4_method_6_code (1 : Nat) (Option.some Jvm.ClassFile.FieldType.int) ∈ WSa := wsa_i 473 _ (by decide +kernel) (by decide +kernel)
theorem kw474 : Jvm.Cond.methodLink "WindCardShips$Hexes" (22 : Nat) ({ cls := "WindCardShips$Hexes", name := "columnStep", desc := "(I)I" } : Jvm.MethodName) ∈ WSa := wsa_i 474 _ (by decide +kernel) (by decide +kernel)
theorem kw475 : Jvm.Cond.static ({ cls := "WindCardShips$Hexes", name := "columnStep", desc := "(I)I" } : Jvm.MethodName) ∈ WSa := wsa_i 475 _ (by decide +kernel) (by decide +kernel)
theorem kw476 : Jvm.Cond.code ({ cls := "WindCardShips$Hexes", name := "columnStep", desc := "(I)I" } : Jvm.MethodName) prog_4_method_7_code (1 : Nat) (Option.some Jvm.ClassFile.FieldType.int) ∈ WSa := wsa_i 476 _ (by decide +kernel) (by decide +kernel)
theorem kw477 : Jvm.Cond.methodLink "WindCardShipsLaw" (35 : Nat) ({ cls := "WindCardShips", name := "fire", desc := "(III)I" } : Jvm.MethodName) ∈ WSa := wsa_i 477 _ (by decide +kernel) (by decide +kernel)
theorem kw478 : Jvm.Cond.instanceMethod ({ cls := "WindCardShips", name := "fire", desc := "(III)I" } : Jvm.MethodName) ∈ WSa := wsa_i 478 _ (by decide +kernel) (by decide +kernel)
theorem kw479 : Jvm.Cond.selects "WindCardShips" ({ cls := "WindCardShips", name := "fire", desc := "(III)I" } : Jvm.MethodName) ({ cls := "WindCardShips", name := "fire", desc := "(III)I" } : Jvm.MethodName) ∈ WSa := wsa_i 479 _ (by decide +kernel) (by decide +kernel)
theorem kw480 : Jvm.Cond.code ({ cls := "WindCardShips", name := "fire", desc := "(III)I" } : Jvm.MethodName) prog_1_method_7_code (4 : Nat) (Option.some Jvm.ClassFile.FieldType.int) ∈ WSa := wsa_i 480 _ (by decide +kernel) (by decide +kernel)
theorem kw481 : Jvm.Cond.methodLink "WindCardShips" (68 : Nat) ({ cls := "WindCardShips$Game", name := "fireAt", desc := "(III)I" } : Jvm.MethodName) ∈ WSa := wsa_i 481 _ (by decide +kernel) (by decide +kernel)
theorem kw482 : Jvm.Cond.instanceMethod ({ cls := "WindCardShips$Game", name := "fireAt", desc := "(III)I" } : Jvm.MethodName) ∈ WSa := wsa_i 482 _ (by decide +kernel) (by decide +kernel)
theorem kw483 : Jvm.Cond.selects "WindCardShips$Game" ({ cls := "WindCardShips$Game", name := "fireAt", desc := "(III)I" } : Jvm.MethodName) ({ cls := "WindCardShips$Game", name := "fireAt", desc := "(III)I" } : Jvm.MethodName) ∈ WSa := wsa_i 483 _ (by decide +kernel) (by decide +kernel)
theorem kw484 : Jvm.Cond.code ({ cls := "WindCardShips$Game", name := "fireAt", desc := "(III)I" } : Jvm.MethodName) prog_3_method_21_code (8 : Nat) (Option.some Jvm.ClassFile.FieldType.int) ∈ WSa := wsa_i 484 _ (by decide +kernel) (by decide +kernel)
theorem kw485 : Jvm.Cond.methodLink "WindCardShips$Game" (189 : Nat) ({ cls := "WindCardShips$Ship", name := "hasSide", desc := "(I)Z" } : Jvm.MethodName) ∈ WSa := wsa_i 485 _ (by decide +kernel) (by decide +kernel)
theorem kw486 : Jvm.Cond.static ({ cls := "WindCardShips$Ship", name := "hasSide", desc := "(I)Z" } : Jvm.MethodName) ∈ WSa := wsa_i 486 _ (by decide +kernel) (by decide +kernel)
theorem kw487 : Jvm.Cond.code ({ cls := "WindCardShips$Ship", name := "hasSide", desc := "(I)Z" } : Jvm.MethodName) prog_9_method_2_code (1 : Nat) (Option.some Jvm.ClassFile.FieldType.boolean) ∈ WSa := wsa_i 487 _ (by decide +kernel) (by decide +kernel)
theorem kw488 : Jvm.Cond.methodLink "WindCardShips$Game" (192 : Nat) ({ cls := "WindCardShips$Game", name := "shotLength", desc := "(LWindCardShips$Ship;ILWindCardShips$Ship;)I" } : Jvm.MethodName) ∈ WSa := wsa_i 488 _ (by decide +kernel) (by decide +kernel)
theorem kw489 : Jvm.Cond.instanceMethod ({ cls := "WindCardShips$Game", name := "shotLength", desc := "(LWindCardShips$Ship;ILWindCardShips$Ship;)I" } : Jvm.MethodName) ∈ WSa := wsa_i 489 _ (by decide +kernel) (by decide +kernel)
theorem kw490 : Jvm.Cond.selects "WindCardShips$Game" ({ cls := "WindCardShips$Game", name := "shotLength", desc := "(LWindCardShips$Ship;ILWindCardShips$Ship;)I" } : Jvm.MethodName) ({ cls := "WindCardShips$Game", name := "shotLength", desc := "(LWindCardShips$Ship;ILWindCardShips$Ship;)I" } : Jvm.MethodName) ∈ WSa := wsa_i 490 _ (by decide +kernel) (by decide +kernel)
theorem kw491 : Jvm.Cond.code ({ cls := "WindCardShips$Game", name := "shotLength", desc := "(LWindCardShips$Ship;ILWindCardShips$Ship;)I" } : Jvm.MethodName) prog_3_method_22_code (6 : Nat) (Option.some Jvm.ClassFile.FieldType.int) ∈ WSa := wsa_i 491 _ (by decide +kernel) (by decide +kernel)
theorem kw492 : Jvm.Cond.methodLink "WindCardShips$Game" (213 : Nat) ({ cls := "WindCardShips$Game", name := "distanceAlong", desc := "(IILWindCardShips$Ship;)I" } : Jvm.MethodName) ∈ WSa := wsa_i 492 _ (by decide +kernel) (by decide +kernel)
theorem kw494 : Jvm.Cond.instanceMethod ({ cls := "WindCardShips$Game", name := "distanceAlong", desc := "(IILWindCardShips$Ship;)I" } : Jvm.MethodName) ∈ WSa := wsa_i 494 _ (by decide +kernel) (by decide +kernel)
theorem kw495 : Jvm.Cond.code ({ cls := "WindCardShips$Game", name := "distanceAlong", desc := "(IILWindCardShips$Ship;)I" } : Jvm.MethodName) prog_3_method_23_code (7 : Nat) (Option.some Jvm.ClassFile.FieldType.int) ∈ WSa := wsa_i 495 _ (by decide +kernel) (by decide +kernel)
theorem kw496 : Jvm.Cond.methodLink "WindCardShips$Game" (196 : Nat) ({ cls := "WindCardShips$Ship", name := "isReloading", desc := "(II)Z" } : Jvm.MethodName) ∈ WSa := wsa_i 496 _ (by decide +kernel) (by decide +kernel)
theorem kw497 : Jvm.Cond.instanceMethod ({ cls := "WindCardShips$Ship", name := "isReloading", desc := "(II)Z" } : Jvm.MethodName) ∈ WSa := wsa_i 497 _ (by decide +kernel) (by decide +kernel)
theorem kw498 : Jvm.Cond.selects "WindCardShips$Ship" ({ cls := "WindCardShips$Ship", name := "isReloading", desc := "(II)Z" } : Jvm.MethodName) ({ cls := "WindCardShips$Ship", name := "isReloading", desc := "(II)Z" } : Jvm.MethodName) ∈ WSa := wsa_i 498 _ (by decide +kernel) (by decide +kernel)
theorem kw499 : Jvm.Cond.code ({ cls := "WindCardShips$Ship", name := "isReloading", desc := "(II)Z" } : Jvm.MethodName) prog_9_method_13_code (3 : Nat) (Option.some Jvm.ClassFile.FieldType.boolean) ∈ WSa := wsa_i 499 _ (by decide +kernel) (by decide +kernel)
theorem kw500 : Jvm.Cond.methodLink "WindCardShips$Game" (200 : Nat) ({ cls := "WindCardShips$Ship", name := "hitsFrom", desc := "(I)I" } : Jvm.MethodName) ∈ WSa := wsa_i 500 _ (by decide +kernel) (by decide +kernel)
theorem kw501 : Jvm.Cond.instanceMethod ({ cls := "WindCardShips$Ship", name := "hitsFrom", desc := "(I)I" } : Jvm.MethodName) ∈ WSa := wsa_i 501 _ (by decide +kernel) (by decide +kernel)
theorem kw502 : Jvm.Cond.selects "WindCardShips$Ship" ({ cls := "WindCardShips$Ship", name := "hitsFrom", desc := "(I)I" } : Jvm.MethodName) ({ cls := "WindCardShips$Ship", name := "hitsFrom", desc := "(I)I" } : Jvm.MethodName) ∈ WSa := wsa_i 502 _ (by decide +kernel) (by decide +kernel)
theorem kw503 : Jvm.Cond.code ({ cls := "WindCardShips$Ship", name := "hitsFrom", desc := "(I)I" } : Jvm.MethodName) prog_9_method_9_code (2 : Nat) (Option.some Jvm.ClassFile.FieldType.int) ∈ WSa := wsa_i 503 _ (by decide +kernel) (by decide +kernel)
theorem kw504 : Jvm.Cond.methodLink "WindCardShips$Game" (203 : Nat) ({ cls := "WindCardShips$Ship", name := "suffer", desc := "(I)V" } : Jvm.MethodName) ∈ WSa := wsa_i 504 _ (by decide +kernel) (by decide +kernel)
theorem kw505 : Jvm.Cond.instanceMethod ({ cls := "WindCardShips$Ship", name := "suffer", desc := "(I)V" } : Jvm.MethodName) ∈ WSa := wsa_i 505 _ (by decide +kernel) (by decide +kernel)
theorem kw506 : Jvm.Cond.selects "WindCardShips$Ship" ({ cls := "WindCardShips$Ship", name := "suffer", desc := "(I)V" } : Jvm.MethodName) ({ cls := "WindCardShips$Ship", name := "suffer", desc := "(I)V" } : Jvm.MethodName) ∈ WSa := wsa_i 506 _ (by decide +kernel) (by decide +kernel)
theorem kw507 : Jvm.Cond.code ({ cls := "WindCardShips$Ship", name := "suffer", desc := "(I)V" } : Jvm.MethodName) prog_9_method_10_code (2 : Nat) (Option.none : Option Jvm.ClassFile.FieldType) ∈ WSa := wsa_i 507 _ (by decide +kernel) (by decide +kernel)
theorem kw508 : Jvm.Cond.methodLink "WindCardShips$Ship" (67 : Nat) ({ cls := "java/lang/Math", name := "max", desc := "(II)I" } : Jvm.MethodName) ∈ WSa := wsa_i 508 _ (by decide +kernel) (by decide +kernel)
theorem kw509 : Jvm.Cond.static ({ cls := "java/lang/Math", name := "max", desc := "(II)I" } : Jvm.MethodName) ∈ WSa := wsa_i 509 _ (by decide +kernel) (by decide +kernel)
theorem kw510 : Jvm.Cond.code ({ cls := "java/lang/Math", name := "max", desc := "(II)I" } : Jvm.MethodName) prog_14_method_65_code (2 : Nat) (Option.some Jvm.ClassFile.FieldType.int) ∈ WSa := wsa_i 510 _ (by decide +kernel) (by decide +kernel)
theorem kw511 : Jvm.Cond.methodLink "WindCardShips$Game" (206 : Nat) ({ cls := "WindCardShips$Game", name := "release", desc := "(LWindCardShips$Ship;)V" } : Jvm.MethodName) ∈ WSa := wsa_i 511 _ (by decide +kernel) (by decide +kernel)
theorem kw513 : Jvm.Cond.instanceMethod ({ cls := "WindCardShips$Game", name := "release", desc := "(LWindCardShips$Ship;)V" } : Jvm.MethodName) ∈ WSa := wsa_i 513 _ (by decide +kernel) (by decide +kernel)
theorem kw514 : Jvm.Cond.code ({ cls := "WindCardShips$Game", name := "release", desc := "(LWindCardShips$Ship;)V" } : Jvm.MethodName) prog_3_method_28_code (3 : Nat) (Option.none : Option Jvm.ClassFile.FieldType) ∈ WSa := wsa_i 514 _ (by decide +kernel) (by decide +kernel)
theorem kw515 : Jvm.Cond.methodLink "WindCardShips$Game" (209 : Nat) ({ cls := "WindCardShips$Ship", name := "noteShot", desc := "(II)V" } : Jvm.MethodName) ∈ WSa := wsa_i 515 _ (by decide +kernel) (by decide +kernel)
theorem kw516 : Jvm.Cond.instanceMethod ({ cls := "WindCardShips$Ship", name := "noteShot", desc := "(II)V" } : Jvm.MethodName) ∈ WSa := wsa_i 516 _ (by decide +kernel) (by decide +kernel)
theorem kw517 : Jvm.Cond.selects "WindCardShips$Ship" ({ cls := "WindCardShips$Ship", name := "noteShot", desc := "(II)V" } : Jvm.MethodName) ({ cls := "WindCardShips$Ship", name := "noteShot", desc := "(II)V" } : Jvm.MethodName) ∈ WSa := wsa_i 517 _ (by decide +kernel) (by decide +kernel)
theorem kw518 : Jvm.Cond.code ({ cls := "WindCardShips$Ship", name := "noteShot", desc := "(II)V" } : Jvm.MethodName) prog_9_method_11_code (3 : Nat) (Option.none : Option Jvm.ClassFile.FieldType) ∈ WSa := wsa_i 518 _ (by decide +kernel) (by decide +kernel)
theorem kw519 : Jvm.Cond.methodLink "WindCardShipsLaw" (40 : Nat) ({ cls := "WindCardShips", name := "grapple", desc := "(II)I" } : Jvm.MethodName) ∈ WSa := wsa_i 519 _ (by decide +kernel) (by decide +kernel)
theorem kw520 : Jvm.Cond.instanceMethod ({ cls := "WindCardShips", name := "grapple", desc := "(II)I" } : Jvm.MethodName) ∈ WSa := wsa_i 520 _ (by decide +kernel) (by decide +kernel)
theorem kw521 : Jvm.Cond.selects "WindCardShips" ({ cls := "WindCardShips", name := "grapple", desc := "(II)I" } : Jvm.MethodName) ({ cls := "WindCardShips", name := "grapple", desc := "(II)I" } : Jvm.MethodName) ∈ WSa := wsa_i 521 _ (by decide +kernel) (by decide +kernel)
theorem kw522 : Jvm.Cond.code ({ cls := "WindCardShips", name := "grapple", desc := "(II)I" } : Jvm.MethodName) prog_1_method_8_code (3 : Nat) (Option.some Jvm.ClassFile.FieldType.int) ∈ WSa := wsa_i 522 _ (by decide +kernel) (by decide +kernel)
theorem kw523 : Jvm.Cond.methodLink "WindCardShips" (72 : Nat) ({ cls := "WindCardShips$Game", name := "grappleTwo", desc := "(II)I" } : Jvm.MethodName) ∈ WSa := wsa_i 523 _ (by decide +kernel) (by decide +kernel)
theorem kw524 : Jvm.Cond.instanceMethod ({ cls := "WindCardShips$Game", name := "grappleTwo", desc := "(II)I" } : Jvm.MethodName) ∈ WSa := wsa_i 524 _ (by decide +kernel) (by decide +kernel)
theorem kw525 : Jvm.Cond.selects "WindCardShips$Game" ({ cls := "WindCardShips$Game", name := "grappleTwo", desc := "(II)I" } : Jvm.MethodName) ({ cls := "WindCardShips$Game", name := "grappleTwo", desc := "(II)I" } : Jvm.MethodName) ∈ WSa := wsa_i 525 _ (by decide +kernel) (by decide +kernel)
theorem kw526 : Jvm.Cond.code ({ cls := "WindCardShips$Game", name := "grappleTwo", desc := "(II)I" } : Jvm.MethodName) prog_3_method_26_code (6 : Nat) (Option.some Jvm.ClassFile.FieldType.int) ∈ WSa := wsa_i 526 _ (by decide +kernel) (by decide +kernel)
theorem kw527 : Jvm.Cond.methodLink "WindCardShips$Game" (217 : Nat) ({ cls := "WindCardShips$Ship", name := "isGrappled", desc := "()Z" } : Jvm.MethodName) ∈ WSa := wsa_i 527 _ (by decide +kernel) (by decide +kernel)
theorem kw528 : Jvm.Cond.methodLink "WindCardShips$Game" (220 : Nat) ({ cls := "WindCardShips$Hexes", name := "areNeighbors", desc := "(II)Z" } : Jvm.MethodName) ∈ WSa := wsa_i 528 _ (by decide +kernel) (by decide +kernel)
theorem kw529 : Jvm.Cond.static ({ cls := "WindCardShips$Hexes", name := "areNeighbors", desc := "(II)Z" } : Jvm.MethodName) ∈ WSa := wsa_i 529 _ (by decide +kernel) (by decide +kernel)
theorem kw530 : Jvm.Cond.code ({ cls := "WindCardShips$Hexes", name := "areNeighbors", desc := "(II)Z" } : Jvm.MethodName) prog_4_method_5_code (3 : Nat) (Option.some Jvm.ClassFile.FieldType.boolean) ∈ WSa := wsa_i 530 _ (by decide +kernel) (by decide +kernel)
theorem kw531 : Jvm.Cond.methodLink "WindCardShips$Hexes" (25 : Nat) ({ cls := "WindCardShips$Hexes", name := "next", desc := "(II)I" } : Jvm.MethodName) ∈ WSa := wsa_i 531 _ (by decide +kernel) (by decide +kernel)
theorem kw532 : Jvm.Cond.methodLink "WindCardShipsLaw" (44 : Nat) ({ cls := "WindCardShips", name := "cut", desc := "(I)I" } : Jvm.MethodName) ∈ WSa := wsa_i 532 _ (by decide +kernel) (by decide +kernel)
theorem kw533 : Jvm.Cond.instanceMethod ({ cls := "WindCardShips", name := "cut", desc := "(I)I" } : Jvm.MethodName) ∈ WSa := wsa_i 533 _ (by decide +kernel) (by decide +kernel)
theorem kw534 : Jvm.Cond.selects "WindCardShips" ({ cls := "WindCardShips", name := "cut", desc := "(I)I" } : Jvm.MethodName) ({ cls := "WindCardShips", name := "cut", desc := "(I)I" } : Jvm.MethodName) ∈ WSa := wsa_i 534 _ (by decide +kernel) (by decide +kernel)
theorem kw535 : Jvm.Cond.code ({ cls := "WindCardShips", name := "cut", desc := "(I)I" } : Jvm.MethodName) prog_1_method_9_code (2 : Nat) (Option.some Jvm.ClassFile.FieldType.int) ∈ WSa := wsa_i 535 _ (by decide +kernel) (by decide +kernel)
theorem kw536 : Jvm.Cond.methodLink "WindCardShips" (75 : Nat) ({ cls := "WindCardShips$Game", name := "cutLoose", desc := "(I)I" } : Jvm.MethodName) ∈ WSa := wsa_i 536 _ (by decide +kernel) (by decide +kernel)
theorem kw537 : Jvm.Cond.instanceMethod ({ cls := "WindCardShips$Game", name := "cutLoose", desc := "(I)I" } : Jvm.MethodName) ∈ WSa := wsa_i 537 _ (by decide +kernel) (by decide +kernel)
theorem kw538 : Jvm.Cond.selects "WindCardShips$Game" ({ cls := "WindCardShips$Game", name := "cutLoose", desc := "(I)I" } : Jvm.MethodName) ({ cls := "WindCardShips$Game", name := "cutLoose", desc := "(I)I" } : Jvm.MethodName) ∈ WSa := wsa_i 538 _ (by decide +kernel) (by decide +kernel)
theorem kw539 : Jvm.Cond.code ({ cls := "WindCardShips$Game", name := "cutLoose", desc := "(I)I" } : Jvm.MethodName) prog_3_method_27_code (4 : Nat) (Option.some Jvm.ClassFile.FieldType.int) ∈ WSa := wsa_i 539 _ (by decide +kernel) (by decide +kernel)
theorem kw540 : Jvm.Cond.methodLink "WindCardShipsLaw" (49 : Nat) ({ cls := "WindCardShips", name := "repair", desc := "(II)I" } : Jvm.MethodName) ∈ WSa := wsa_i 540 _ (by decide +kernel) (by decide +kernel)
theorem kw541 : Jvm.Cond.instanceMethod ({ cls := "WindCardShips", name := "repair", desc := "(II)I" } : Jvm.MethodName) ∈ WSa := wsa_i 541 _ (by decide +kernel) (by decide +kernel)
theorem kw542 : Jvm.Cond.selects "WindCardShips" ({ cls := "WindCardShips", name := "repair", desc := "(II)I" } : Jvm.MethodName) ({ cls := "WindCardShips", name := "repair", desc := "(II)I" } : Jvm.MethodName) ∈ WSa := wsa_i 542 _ (by decide +kernel) (by decide +kernel)
theorem kw543 : Jvm.Cond.code ({ cls := "WindCardShips", name := "repair", desc := "(II)I" } : Jvm.MethodName) prog_1_method_10_code (3 : Nat) (Option.some Jvm.ClassFile.FieldType.int) ∈ WSa := wsa_i 543 _ (by decide +kernel) (by decide +kernel)
theorem kw544 : Jvm.Cond.methodLink "WindCardShips" (78 : Nat) ({ cls := "WindCardShips$Game", name := "mend", desc := "(II)I" } : Jvm.MethodName) ∈ WSa := wsa_i 544 _ (by decide +kernel) (by decide +kernel)
theorem kw545 : Jvm.Cond.instanceMethod ({ cls := "WindCardShips$Game", name := "mend", desc := "(II)I" } : Jvm.MethodName) ∈ WSa := wsa_i 545 _ (by decide +kernel) (by decide +kernel)
theorem kw546 : Jvm.Cond.selects "WindCardShips$Game" ({ cls := "WindCardShips$Game", name := "mend", desc := "(II)I" } : Jvm.MethodName) ({ cls := "WindCardShips$Game", name := "mend", desc := "(II)I" } : Jvm.MethodName) ∈ WSa := wsa_i 546 _ (by decide +kernel) (by decide +kernel)
theorem kw547 : Jvm.Cond.code ({ cls := "WindCardShips$Game", name := "mend", desc := "(II)I" } : Jvm.MethodName) prog_3_method_31_code (6 : Nat) (Option.some Jvm.ClassFile.FieldType.int) ∈ WSa := wsa_i 547 _ (by decide +kernel) (by decide +kernel)
theorem kw548 : Jvm.Cond.methodLink "WindCardShips$Game" (235 : Nat) ({ cls := "WindCardShips$Game", name := "mendable", desc := "(LWindCardShips$Ship;II)I" } : Jvm.MethodName) ∈ WSa := wsa_i 548 _ (by decide +kernel) (by decide +kernel)
theorem kw549 : Jvm.Cond.static ({ cls := "WindCardShips$Game", name := "mendable", desc := "(LWindCardShips$Ship;II)I" } : Jvm.MethodName) ∈ WSa := wsa_i 549 _ (by decide +kernel) (by decide +kernel)
theorem kw550 : Jvm.Cond.code ({ cls := "WindCardShips$Game", name := "mendable", desc := "(LWindCardShips$Ship;II)I" } : Jvm.MethodName) prog_3_method_32_code (3 : Nat) (Option.some Jvm.ClassFile.FieldType.int) ∈ WSa := wsa_i 550 _ (by decide +kernel) (by decide +kernel)
theorem kw551 : Jvm.Cond.methodLink "WindCardShips$Game" (238 : Nat) ({ cls := "java/lang/Math", name := "min", desc := "(II)I" } : Jvm.MethodName) ∈ WSa := wsa_i 551 _ (by decide +kernel) (by decide +kernel)
theorem kw552 : Jvm.Cond.methodLink "WindCardShipsLaw" (53 : Nat) ({ cls := "WindCardShips", name := "end", desc := "()I" } : Jvm.MethodName) ∈ WSa := wsa_i 552 _ (by decide +kernel) (by decide +kernel)
theorem kw553 : Jvm.Cond.instanceMethod ({ cls := "WindCardShips", name := "end", desc := "()I" } : Jvm.MethodName) ∈ WSa := wsa_i 553 _ (by decide +kernel) (by decide +kernel)
theorem kw554 : Jvm.Cond.selects "WindCardShips" ({ cls := "WindCardShips", name := "end", desc := "()I" } : Jvm.MethodName) ({ cls := "WindCardShips", name := "end", desc := "()I" } : Jvm.MethodName) ∈ WSa := wsa_i 554 _ (by decide +kernel) (by decide +kernel)
theorem kw555 : Jvm.Cond.code ({ cls := "WindCardShips", name := "end", desc := "()I" } : Jvm.MethodName) prog_1_method_11_code (1 : Nat) (Option.some Jvm.ClassFile.FieldType.int) ∈ WSa := wsa_i 555 _ (by decide +kernel) (by decide +kernel)
theorem kw556 : Jvm.Cond.methodLink "WindCardShips" (81 : Nat) ({ cls := "WindCardShips$Game", name := "endTurn", desc := "()I" } : Jvm.MethodName) ∈ WSa := wsa_i 556 _ (by decide +kernel) (by decide +kernel)
theorem kw557 : Jvm.Cond.instanceMethod ({ cls := "WindCardShips$Game", name := "endTurn", desc := "()I" } : Jvm.MethodName) ∈ WSa := wsa_i 557 _ (by decide +kernel) (by decide +kernel)
theorem kw558 : Jvm.Cond.selects "WindCardShips$Game" ({ cls := "WindCardShips$Game", name := "endTurn", desc := "()I" } : Jvm.MethodName) ({ cls := "WindCardShips$Game", name := "endTurn", desc := "()I" } : Jvm.MethodName) ∈ WSa := wsa_i 558 _ (by decide +kernel) (by decide +kernel)
theorem kw559 : Jvm.Cond.code ({ cls := "WindCardShips$Game", name := "endTurn", desc := "()I" } : Jvm.MethodName) prog_3_method_33_code (6 : Nat) (Option.some Jvm.ClassFile.FieldType.int) ∈ WSa := wsa_i 559 _ (by decide +kernel) (by decide +kernel)
theorem kw560 : Jvm.Cond.methodLink "WindCardShips$Game" (241 : Nat) ({ cls := "WindCardShips$Game", name := "fight", desc := "(LWindCardShips$Ship;LWindCardShips$Ship;)V" } : Jvm.MethodName) ∈ WSa := wsa_i 560 _ (by decide +kernel) (by decide +kernel)
theorem kw562 : Jvm.Cond.instanceMethod ({ cls := "WindCardShips$Game", name := "fight", desc := "(LWindCardShips$Ship;LWindCardShips$Ship;)V" } : Jvm.MethodName) ∈ WSa := wsa_i 562 _ (by decide +kernel) (by decide +kernel)
theorem kw563 : Jvm.Cond.code ({ cls := "WindCardShips$Game", name := "fight", desc := "(LWindCardShips$Ship;LWindCardShips$Ship;)V" } : Jvm.MethodName) prog_3_method_29_code (5 : Nat) (Option.none : Option Jvm.ClassFile.FieldType) ∈ WSa := wsa_i 563 _ (by decide +kernel) (by decide +kernel)
theorem kw564 : Jvm.Cond.methodLink "WindCardShips$Game" (226 : Nat) ({ cls := "java/lang/Math", name := "max", desc := "(II)I" } : Jvm.MethodName) ∈ WSa := wsa_i 564 _ (by decide +kernel) (by decide +kernel)
theorem kw565 : Jvm.Cond.methodLink "WindCardShips$Game" (231 : Nat) ({ cls := "WindCardShips$Game", name := "capture", desc := "(LWindCardShips$Ship;LWindCardShips$Ship;)V" } : Jvm.MethodName) ∈ WSa := wsa_i 565 _ (by decide +kernel) (by decide +kernel)
theorem kw567 : Jvm.Cond.instanceMethod ({ cls := "WindCardShips$Game", name := "capture", desc := "(LWindCardShips$Ship;LWindCardShips$Ship;)V" } : Jvm.MethodName) ∈ WSa := wsa_i 567 _ (by decide +kernel) (by decide +kernel)
theorem kw568 : Jvm.Cond.code ({ cls := "WindCardShips$Game", name := "capture", desc := "(LWindCardShips$Ship;LWindCardShips$Ship;)V" } : Jvm.MethodName) prog_3_method_30_code (4 : Nat) (Option.none : Option Jvm.ClassFile.FieldType) ∈ WSa := wsa_i 568 _ (by decide +kernel) (by decide +kernel)
theorem kw569 : Jvm.Cond.methodLink "WindCardShipsLaw" (58 : Nat) ({ cls := "WindCardShips", name := "take", desc := "(I)I" } : Jvm.MethodName) ∈ WSa := wsa_i 569 _ (by decide +kernel) (by decide +kernel)
theorem kw570 : Jvm.Cond.instanceMethod ({ cls := "WindCardShips", name := "take", desc := "(I)I" } : Jvm.MethodName) ∈ WSa := wsa_i 570 _ (by decide +kernel) (by decide +kernel)
theorem kw571 : Jvm.Cond.selects "WindCardShips" ({ cls := "WindCardShips", name := "take", desc := "(I)I" } : Jvm.MethodName) ({ cls := "WindCardShips", name := "take", desc := "(I)I" } : Jvm.MethodName) ∈ WSa := wsa_i 571 _ (by decide +kernel) (by decide +kernel)
theorem kw572 : Jvm.Cond.code ({ cls := "WindCardShips", name := "take", desc := "(I)I" } : Jvm.MethodName) prog_1_method_12_code (2 : Nat) (Option.some Jvm.ClassFile.FieldType.int) ∈ WSa := wsa_i 572 _ (by decide +kernel) (by decide +kernel)
theorem kw573 : Jvm.Cond.methodLink "WindCardShips" (85 : Nat) ({ cls := "WindCardShips$State", name := "fillSlot", desc := "(I)I" } : Jvm.MethodName) ∈ WSa := wsa_i 573 _ (by decide +kernel) (by decide +kernel)
theorem kw574 : Jvm.Cond.instanceMethod ({ cls := "WindCardShips$State", name := "fillSlot", desc := "(I)I" } : Jvm.MethodName) ∈ WSa := wsa_i 574 _ (by decide +kernel) (by decide +kernel)
theorem kw575 : Jvm.Cond.selects "WindCardShips$State" ({ cls := "WindCardShips$State", name := "fillSlot", desc := "(I)I" } : Jvm.MethodName) ({ cls := "WindCardShips$State", name := "fillSlot", desc := "(I)I" } : Jvm.MethodName) ∈ WSa := wsa_i 575 _ (by decide +kernel) (by decide +kernel)
theorem kw576 : Jvm.Cond.code ({ cls := "WindCardShips$State", name := "fillSlot", desc := "(I)I" } : Jvm.MethodName) prog_10_method_3_code (2 : Nat) (Option.some Jvm.ClassFile.FieldType.int) ∈ WSa := wsa_i 576 _ (by decide +kernel) (by decide +kernel)
theorem kw577 : Jvm.Cond.methodLink "WindCardShips$State" (32 : Nat) ({ cls := "WindCardShips$State", name := "slotOf", desc := "(I)LWindCardShips$Game;" } : Jvm.MethodName) ∈ WSa := wsa_i 577 _ (by decide +kernel) (by decide +kernel)
theorem kw579 : Jvm.Cond.instanceMethod ({ cls := "WindCardShips$State", name := "slotOf", desc := "(I)LWindCardShips$Game;" } : Jvm.MethodName) ∈ WSa := wsa_i 579 _ (by decide +kernel) (by decide +kernel)
theorem kw580 : Jvm.Cond.code ({ cls := "WindCardShips$State", name := "slotOf", desc := "(I)LWindCardShips$Game;" } : Jvm.MethodName) prog_10_method_5_code (2 : Nat) (Option.some (Jvm.ClassFile.FieldType.object "WindCardShips$Game")) ∈ WSa := wsa_i 580 _ (by decide +kernel) (by decide +kernel)
theorem kw581 : Jvm.Cond.methodLink "WindCardShips$State" (36 : Nat) ({ cls := "WindCardShips$Game", name := "turn", desc := "()I" } : Jvm.MethodName) ∈ WSa := wsa_i 581 _ (by decide +kernel) (by decide +kernel)
theorem kw582 : Jvm.Cond.instanceMethod ({ cls := "WindCardShips$Game", name := "turn", desc := "()I" } : Jvm.MethodName) ∈ WSa := wsa_i 582 _ (by decide +kernel) (by decide +kernel)
theorem kw583 : Jvm.Cond.selects "WindCardShips$Game" ({ cls := "WindCardShips$Game", name := "turn", desc := "()I" } : Jvm.MethodName) ({ cls := "WindCardShips$Game", name := "turn", desc := "()I" } : Jvm.MethodName) ∈ WSa := wsa_i 583 _ (by decide +kernel) (by decide +kernel)
theorem kw584 : Jvm.Cond.code ({ cls := "WindCardShips$Game", name := "turn", desc := "()I" } : Jvm.MethodName) prog_3_method_3_code (1 : Nat) (Option.some Jvm.ClassFile.FieldType.int) ∈ WSa := wsa_i 584 _ (by decide +kernel) (by decide +kernel)
theorem kw585 : Jvm.Cond.methodLink "WindCardShipsLaw" (62 : Nat) ({ cls := "WindCardShips", name := "restore", desc := "(I)I" } : Jvm.MethodName) ∈ WSa := wsa_i 585 _ (by decide +kernel) (by decide +kernel)
theorem kw586 : Jvm.Cond.instanceMethod ({ cls := "WindCardShips", name := "restore", desc := "(I)I" } : Jvm.MethodName) ∈ WSa := wsa_i 586 _ (by decide +kernel) (by decide +kernel)
theorem kw587 : Jvm.Cond.selects "WindCardShips" ({ cls := "WindCardShips", name := "restore", desc := "(I)I" } : Jvm.MethodName) ({ cls := "WindCardShips", name := "restore", desc := "(I)I" } : Jvm.MethodName) ∈ WSa := wsa_i 587 _ (by decide +kernel) (by decide +kernel)
theorem kw588 : Jvm.Cond.code ({ cls := "WindCardShips", name := "restore", desc := "(I)I" } : Jvm.MethodName) prog_1_method_13_code (2 : Nat) (Option.some Jvm.ClassFile.FieldType.int) ∈ WSa := wsa_i 588 _ (by decide +kernel) (by decide +kernel)
theorem kw589 : Jvm.Cond.methodLink "WindCardShips" (88 : Nat) ({ cls := "WindCardShips$State", name := "resumeSlot", desc := "(I)I" } : Jvm.MethodName) ∈ WSa := wsa_i 589 _ (by decide +kernel) (by decide +kernel)
theorem kw590 : Jvm.Cond.instanceMethod ({ cls := "WindCardShips$State", name := "resumeSlot", desc := "(I)I" } : Jvm.MethodName) ∈ WSa := wsa_i 590 _ (by decide +kernel) (by decide +kernel)
theorem kw591 : Jvm.Cond.selects "WindCardShips$State" ({ cls := "WindCardShips$State", name := "resumeSlot", desc := "(I)I" } : Jvm.MethodName) ({ cls := "WindCardShips$State", name := "resumeSlot", desc := "(I)I" } : Jvm.MethodName) ∈ WSa := wsa_i 591 _ (by decide +kernel) (by decide +kernel)
theorem kw592 : Jvm.Cond.code ({ cls := "WindCardShips$State", name := "resumeSlot", desc := "(I)I" } : Jvm.MethodName) prog_10_method_4_code (2 : Nat) (Option.some Jvm.ClassFile.FieldType.int) ∈ WSa := wsa_i 592 _ (by decide +kernel) (by decide +kernel)
theorem kw593 : Jvm.Cond.methodLink "WindCardShipsLaw" (66 : Nat) ({ cls := "WindCardShips", name := "undo", desc := "()I" } : Jvm.MethodName) ∈ WSa := wsa_i 593 _ (by decide +kernel) (by decide +kernel)
theorem kw594 : Jvm.Cond.instanceMethod ({ cls := "WindCardShips", name := "undo", desc := "()I" } : Jvm.MethodName) ∈ WSa := wsa_i 594 _ (by decide +kernel) (by decide +kernel)
theorem kw595 : Jvm.Cond.selects "WindCardShips" ({ cls := "WindCardShips", name := "undo", desc := "()I" } : Jvm.MethodName) ({ cls := "WindCardShips", name := "undo", desc := "()I" } : Jvm.MethodName) ∈ WSa := wsa_i 595 _ (by decide +kernel) (by decide +kernel)
theorem kw596 : Jvm.Cond.code ({ cls := "WindCardShips", name := "undo", desc := "()I" } : Jvm.MethodName) prog_1_method_14_code (1 : Nat) (Option.some Jvm.ClassFile.FieldType.int) ∈ WSa := wsa_i 596 _ (by decide +kernel) (by decide +kernel)
theorem kw597 : Jvm.Cond.methodLink "WindCardShips" (91 : Nat) ({ cls := "WindCardShips$History", name := "stepBack", desc := "(LWindCardShips$State;)I" } : Jvm.MethodName) ∈ WSa := wsa_i 597 _ (by decide +kernel) (by decide +kernel)
theorem kw598 : Jvm.Cond.instanceMethod ({ cls := "WindCardShips$History", name := "stepBack", desc := "(LWindCardShips$State;)I" } : Jvm.MethodName) ∈ WSa := wsa_i 598 _ (by decide +kernel) (by decide +kernel)
theorem kw599 : Jvm.Cond.selects "WindCardShips$History" ({ cls := "WindCardShips$History", name := "stepBack", desc := "(LWindCardShips$State;)I" } : Jvm.MethodName) ({ cls := "WindCardShips$History", name := "stepBack", desc := "(LWindCardShips$State;)I" } : Jvm.MethodName) ∈ WSa := wsa_i 599 _ (by decide +kernel) (by decide +kernel)
theorem kw600 : Jvm.Cond.code ({ cls := "WindCardShips$History", name := "stepBack", desc := "(LWindCardShips$State;)I" } : Jvm.MethodName) prog_5_method_5_code (4 : Nat) (Option.some Jvm.ClassFile.FieldType.int) ∈ WSa := wsa_i 600 _ (by decide +kernel) (by decide +kernel)
theorem kw601 : Jvm.Cond.methodLink "WindCardShipsLaw" (70 : Nat) ({ cls := "WindCardShips", name := "append", desc := "(I)I" } : Jvm.MethodName) ∈ WSa := wsa_i 601 _ (by decide +kernel) (by decide +kernel)
theorem kw602 : Jvm.Cond.instanceMethod ({ cls := "WindCardShips", name := "append", desc := "(I)I" } : Jvm.MethodName) ∈ WSa := wsa_i 602 _ (by decide +kernel) (by decide +kernel)
theorem kw603 : Jvm.Cond.selects "WindCardShips" ({ cls := "WindCardShips", name := "append", desc := "(I)I" } : Jvm.MethodName) ({ cls := "WindCardShips", name := "append", desc := "(I)I" } : Jvm.MethodName) ∈ WSa := wsa_i 603 _ (by decide +kernel) (by decide +kernel)
theorem kw604 : Jvm.Cond.code ({ cls := "WindCardShips", name := "append", desc := "(I)I" } : Jvm.MethodName) prog_1_method_15_code (2 : Nat) (Option.some Jvm.ClassFile.FieldType.int) ∈ WSa := wsa_i 604 _ (by decide +kernel) (by decide +kernel)
theorem kw605 : Jvm.Cond.methodLink "WindCardShips" (95 : Nat) ({ cls := "WindCardShips$Orders", name := "addSign", desc := "(I)I" } : Jvm.MethodName) ∈ WSa := wsa_i 605 _ (by decide +kernel) (by decide +kernel)
theorem kw606 : Jvm.Cond.instanceMethod ({ cls := "WindCardShips$Orders", name := "addSign", desc := "(I)I" } : Jvm.MethodName) ∈ WSa := wsa_i 606 _ (by decide +kernel) (by decide +kernel)
theorem kw607 : Jvm.Cond.selects "WindCardShips$Orders" ({ cls := "WindCardShips$Orders", name := "addSign", desc := "(I)I" } : Jvm.MethodName) ({ cls := "WindCardShips$Orders", name := "addSign", desc := "(I)I" } : Jvm.MethodName) ∈ WSa := wsa_i 607 _ (by decide +kernel) (by decide +kernel)
theorem kw608 : Jvm.Cond.code ({ cls := "WindCardShips$Orders", name := "addSign", desc := "(I)I" } : Jvm.MethodName) prog_6_method_3_code (2 : Nat) (Option.some Jvm.ClassFile.FieldType.int) ∈ WSa := wsa_i 608 _ (by decide +kernel) (by decide +kernel)
theorem kw609 : Jvm.Cond.methodLink "WindCardShipsLaw" (74 : Nat) ({ cls := "WindCardShips", name := "clearText", desc := "()I" } : Jvm.MethodName) ∈ WSa := wsa_i 609 _ (by decide +kernel) (by decide +kernel)
theorem kw610 : Jvm.Cond.instanceMethod ({ cls := "WindCardShips", name := "clearText", desc := "()I" } : Jvm.MethodName) ∈ WSa := wsa_i 610 _ (by decide +kernel) (by decide +kernel)
theorem kw611 : Jvm.Cond.selects "WindCardShips" ({ cls := "WindCardShips", name := "clearText", desc := "()I" } : Jvm.MethodName) ({ cls := "WindCardShips", name := "clearText", desc := "()I" } : Jvm.MethodName) ∈ WSa := wsa_i 611 _ (by decide +kernel) (by decide +kernel)
theorem kw612 : Jvm.Cond.code ({ cls := "WindCardShips", name := "clearText", desc := "()I" } : Jvm.MethodName) prog_1_method_16_code (1 : Nat) (Option.some Jvm.ClassFile.FieldType.int) ∈ WSa := wsa_i 612 _ (by decide +kernel) (by decide +kernel)
theorem kw613 : Jvm.Cond.methodLink "WindCardShips" (98 : Nat) ({ cls := "WindCardShips$Orders", name := "dropSigns", desc := "()I" } : Jvm.MethodName) ∈ WSa := wsa_i 613 _ (by decide +kernel) (by decide +kernel)
theorem kw614 : Jvm.Cond.instanceMethod ({ cls := "WindCardShips$Orders", name := "dropSigns", desc := "()I" } : Jvm.MethodName) ∈ WSa := wsa_i 614 _ (by decide +kernel) (by decide +kernel)
theorem kw615 : Jvm.Cond.selects "WindCardShips$Orders" ({ cls := "WindCardShips$Orders", name := "dropSigns", desc := "()I" } : Jvm.MethodName) ({ cls := "WindCardShips$Orders", name := "dropSigns", desc := "()I" } : Jvm.MethodName) ∈ WSa := wsa_i 615 _ (by decide +kernel) (by decide +kernel)
theorem kw616 : Jvm.Cond.code ({ cls := "WindCardShips$Orders", name := "dropSigns", desc := "()I" } : Jvm.MethodName) prog_6_method_4_code (2 : Nat) (Option.some Jvm.ClassFile.FieldType.int) ∈ WSa := wsa_i 616 _ (by decide +kernel) (by decide +kernel)
theorem kw617 : Jvm.Cond.methodLink "WindCardShipsLaw" (78 : Nat) ({ cls := "WindCardShips", name := "carryOut", desc := "()I" } : Jvm.MethodName) ∈ WSa := wsa_i 617 _ (by decide +kernel) (by decide +kernel)
theorem kw618 : Jvm.Cond.instanceMethod ({ cls := "WindCardShips", name := "carryOut", desc := "()I" } : Jvm.MethodName) ∈ WSa := wsa_i 618 _ (by decide +kernel) (by decide +kernel)
theorem kw619 : Jvm.Cond.selects "WindCardShips" ({ cls := "WindCardShips", name := "carryOut", desc := "()I" } : Jvm.MethodName) ({ cls := "WindCardShips", name := "carryOut", desc := "()I" } : Jvm.MethodName) ∈ WSa := wsa_i 619 _ (by decide +kernel) (by decide +kernel)
theorem kw620 : Jvm.Cond.code ({ cls := "WindCardShips", name := "carryOut", desc := "()I" } : Jvm.MethodName) prog_1_method_17_code (4 : Nat) (Option.some Jvm.ClassFile.FieldType.int) ∈ WSa := wsa_i 620 _ (by decide +kernel) (by decide +kernel)
theorem kw621 : Jvm.Cond.methodLink "WindCardShips" (101 : Nat) ({ cls := "WindCardShips$Orders", name := "fault", desc := "()I" } : Jvm.MethodName) ∈ WSa := wsa_i 621 _ (by decide +kernel) (by decide +kernel)
theorem kw622 : Jvm.Cond.instanceMethod ({ cls := "WindCardShips$Orders", name := "fault", desc := "()I" } : Jvm.MethodName) ∈ WSa := wsa_i 622 _ (by decide +kernel) (by decide +kernel)
theorem kw623 : Jvm.Cond.selects "WindCardShips$Orders" ({ cls := "WindCardShips$Orders", name := "fault", desc := "()I" } : Jvm.MethodName) ({ cls := "WindCardShips$Orders", name := "fault", desc := "()I" } : Jvm.MethodName) ∈ WSa := wsa_i 623 _ (by decide +kernel) (by decide +kernel)
theorem kw624 : Jvm.Cond.code ({ cls := "WindCardShips$Orders", name := "fault", desc := "()I" } : Jvm.MethodName) prog_6_method_7_code (2 : Nat) (Option.some Jvm.ClassFile.FieldType.int) ∈ WSa := wsa_i 624 _ (by decide +kernel) (by decide +kernel)
theorem kw625 : Jvm.Cond.methodLink "WindCardShips$Orders" (22 : Nat) ({ cls := "WindCardShips$Orders", name := "rewind", desc := "()V" } : Jvm.MethodName) ∈ WSa := wsa_i 625 _ (by decide +kernel) (by decide +kernel)
theorem kw626 : Jvm.Cond.instanceMethod ({ cls := "WindCardShips$Orders", name := "rewind", desc := "()V" } : Jvm.MethodName) ∈ WSa := wsa_i 626 _ (by decide +kernel) (by decide +kernel)
theorem kw627 : Jvm.Cond.selects "WindCardShips$Orders" ({ cls := "WindCardShips$Orders", name := "rewind", desc := "()V" } : Jvm.MethodName) ({ cls := "WindCardShips$Orders", name := "rewind", desc := "()V" } : Jvm.MethodName) ∈ WSa := wsa_i 627 _ (by decide +kernel) (by decide +kernel)
theorem kw628 : Jvm.Cond.code ({ cls := "WindCardShips$Orders", name := "rewind", desc := "()V" } : Jvm.MethodName) prog_6_method_5_code (1 : Nat) (Option.none : Option Jvm.ClassFile.FieldType) ∈ WSa := wsa_i 628 _ (by decide +kernel) (by decide +kernel)
theorem kw629 : Jvm.Cond.methodLink "WindCardShips$Orders" (25 : Nat) ({ cls := "WindCardShips$Orders", name := "readOrder", desc := "()Z" } : Jvm.MethodName) ∈ WSa := wsa_i 629 _ (by decide +kernel) (by decide +kernel)
theorem kw630 : Jvm.Cond.instanceMethod ({ cls := "WindCardShips$Orders", name := "readOrder", desc := "()Z" } : Jvm.MethodName) ∈ WSa := wsa_i 630 _ (by decide +kernel) (by decide +kernel)
theorem kw631 : Jvm.Cond.selects "WindCardShips$Orders" ({ cls := "WindCardShips$Orders", name := "readOrder", desc := "()Z" } : Jvm.MethodName) ({ cls := "WindCardShips$Orders", name := "readOrder", desc := "()Z" } : Jvm.MethodName) ∈ WSa := wsa_i 631 _ (by decide +kernel) (by decide +kernel)
theorem kw632 : Jvm.Cond.code ({ cls := "WindCardShips$Orders", name := "readOrder", desc := "()Z" } : Jvm.MethodName) prog_6_method_9_code (3 : Nat) (Option.some Jvm.ClassFile.FieldType.boolean) ∈ WSa := wsa_i 632 _ (by decide +kernel) (by decide +kernel)
theorem kw633 : Jvm.Cond.methodLink "WindCardShips$Orders" (39 : Nat) ({ cls := "WindCardShips$Orders", name := "signAt", desc := "(I)I" } : Jvm.MethodName) ∈ WSa := wsa_i 633 _ (by decide +kernel) (by decide +kernel)
theorem kw635 : Jvm.Cond.instanceMethod ({ cls := "WindCardShips$Orders", name := "signAt", desc := "(I)I" } : Jvm.MethodName) ∈ WSa := wsa_i 635 _ (by decide +kernel) (by decide +kernel)
theorem kw636 : Jvm.Cond.code ({ cls := "WindCardShips$Orders", name := "signAt", desc := "(I)I" } : Jvm.MethodName) prog_6_method_10_code (2 : Nat) (Option.some Jvm.ClassFile.FieldType.int) ∈ WSa := wsa_i 636 _ (by decide +kernel) (by decide +kernel)
theorem kw637 : Jvm.Cond.methodLink "WindCardShips$Orders" (46 : Nat) ({ cls := "WindCardShips$Orders", name := "numbersOf", desc := "(I)I" } : Jvm.MethodName) ∈ WSa := wsa_i 637 _ (by decide +kernel) (by decide +kernel)
theorem kw638 : Jvm.Cond.static ({ cls := "WindCardShips$Orders", name := "numbersOf", desc := "(I)I" } : Jvm.MethodName) ∈ WSa := wsa_i 638 _ (by decide +kernel) (by decide +kernel)
theorem kw639 : Jvm.Cond.code ({ cls := "WindCardShips$Orders", name := "numbersOf", desc := "(I)I" } : Jvm.MethodName) prog_6_method_15_code (1 : Nat) (Option.some Jvm.ClassFile.FieldType.int) ∈ WSa := wsa_i 639 _ (by decide +kernel) (by decide +kernel)
theorem kw640 : Jvm.Cond.methodLink "WindCardShips$Orders" (35 : Nat) ({ cls := "WindCardShips$Orders", name := "readSign", desc := "(I)Z" } : Jvm.MethodName) ∈ WSa := wsa_i 640 _ (by decide +kernel) (by decide +kernel)
theorem kw642 : Jvm.Cond.instanceMethod ({ cls := "WindCardShips$Orders", name := "readSign", desc := "(I)Z" } : Jvm.MethodName) ∈ WSa := wsa_i 642 _ (by decide +kernel) (by decide +kernel)
theorem kw643 : Jvm.Cond.code ({ cls := "WindCardShips$Orders", name := "readSign", desc := "(I)Z" } : Jvm.MethodName) prog_6_method_11_code (2 : Nat) (Option.some Jvm.ClassFile.FieldType.boolean) ∈ WSa := wsa_i 643 _ (by decide +kernel) (by decide +kernel)
theorem kw644 : Jvm.Cond.methodLink "WindCardShips$Orders" (49 : Nat) ({ cls := "WindCardShips$Orders", name := "isDigit", desc := "(I)Z" } : Jvm.MethodName) ∈ WSa := wsa_i 644 _ (by decide +kernel) (by decide +kernel)
theorem kw645 : Jvm.Cond.static ({ cls := "WindCardShips$Orders", name := "isDigit", desc := "(I)Z" } : Jvm.MethodName) ∈ WSa := wsa_i 645 _ (by decide +kernel) (by decide +kernel)
theorem kw646 : Jvm.Cond.code ({ cls := "WindCardShips$Orders", name := "isDigit", desc := "(I)Z" } : Jvm.MethodName) prog_6_method_12_code (1 : Nat) (Option.some Jvm.ClassFile.FieldType.boolean) ∈ WSa := wsa_i 646 _ (by decide +kernel) (by decide +kernel)
theorem kw647 : Jvm.Cond.methodLink "WindCardShips$Orders" (52 : Nat) ({ cls := "WindCardShips$Orders", name := "readNumber", desc := "()I" } : Jvm.MethodName) ∈ WSa := wsa_i 647 _ (by decide +kernel) (by decide +kernel)
theorem kw649 : Jvm.Cond.instanceMethod ({ cls := "WindCardShips$Orders", name := "readNumber", desc := "()I" } : Jvm.MethodName) ∈ WSa := wsa_i 649 _ (by decide +kernel) (by decide +kernel)
theorem kw650 : Jvm.Cond.code ({ cls := "WindCardShips$Orders", name := "readNumber", desc := "()I" } : Jvm.MethodName) prog_6_method_13_code (4 : Nat) (Option.some Jvm.ClassFile.FieldType.int) ∈ WSa := wsa_i 650 _ (by decide +kernel) (by decide +kernel)
theorem kw651 : Jvm.Cond.methodLink "WindCardShips$Orders" (56 : Nat) ({ cls := "WindCardShips$Orders", name := "keepNumber", desc := "(II)V" } : Jvm.MethodName) ∈ WSa := wsa_i 651 _ (by decide +kernel) (by decide +kernel)
theorem kw653 : Jvm.Cond.instanceMethod ({ cls := "WindCardShips$Orders", name := "keepNumber", desc := "(II)V" } : Jvm.MethodName) ∈ WSa := wsa_i 653 _ (by decide +kernel) (by decide +kernel)
theorem kw654 : Jvm.Cond.code ({ cls := "WindCardShips$Orders", name := "keepNumber", desc := "(II)V" } : Jvm.MethodName) prog_6_method_14_code (3 : Nat) (Option.none : Option Jvm.ClassFile.FieldType) ∈ WSa := wsa_i 654 _ (by decide +kernel) (by decide +kernel)
theorem kw655 : Jvm.Cond.methodLink "WindCardShips$Orders" (29 : Nat) ({ cls := "WindCardShips$Orders", name := "atEnd", desc := "()Z" } : Jvm.MethodName) ∈ WSa := wsa_i 655 _ (by decide +kernel) (by decide +kernel)
theorem kw656 : Jvm.Cond.instanceMethod ({ cls := "WindCardShips$Orders", name := "atEnd", desc := "()Z" } : Jvm.MethodName) ∈ WSa := wsa_i 656 _ (by decide +kernel) (by decide +kernel)
theorem kw657 : Jvm.Cond.selects "WindCardShips$Orders" ({ cls := "WindCardShips$Orders", name := "atEnd", desc := "()Z" } : Jvm.MethodName) ({ cls := "WindCardShips$Orders", name := "atEnd", desc := "()Z" } : Jvm.MethodName) ∈ WSa := wsa_i 657 _ (by decide +kernel) (by decide +kernel)
theorem kw658 : Jvm.Cond.code ({ cls := "WindCardShips$Orders", name := "atEnd", desc := "()Z" } : Jvm.MethodName) prog_6_method_6_code (1 : Nat) (Option.some Jvm.ClassFile.FieldType.boolean) ∈ WSa := wsa_i 658 _ (by decide +kernel) (by decide +kernel)
theorem kw659 : Jvm.Cond.methodLink "WindCardShips$Orders" (32 : Nat) ({ cls := "WindCardShips$Orders", name := "readSeparator", desc := "()Z" } : Jvm.MethodName) ∈ WSa := wsa_i 659 _ (by decide +kernel) (by decide +kernel)
theorem kw660 : Jvm.Cond.instanceMethod ({ cls := "WindCardShips$Orders", name := "readSeparator", desc := "()Z" } : Jvm.MethodName) ∈ WSa := wsa_i 660 _ (by decide +kernel) (by decide +kernel)
theorem kw661 : Jvm.Cond.selects "WindCardShips$Orders" ({ cls := "WindCardShips$Orders", name := "readSeparator", desc := "()Z" } : Jvm.MethodName) ({ cls := "WindCardShips$Orders", name := "readSeparator", desc := "()Z" } : Jvm.MethodName) ∈ WSa := wsa_i 661 _ (by decide +kernel) (by decide +kernel)
theorem kw662 : Jvm.Cond.code ({ cls := "WindCardShips$Orders", name := "readSeparator", desc := "()Z" } : Jvm.MethodName) prog_6_method_8_code (1 : Nat) (Option.some Jvm.ClassFile.FieldType.boolean) ∈ WSa := wsa_i 662 _ (by decide +kernel) (by decide +kernel)
theorem kw663 : Jvm.Cond.methodLink "WindCardShips" (104 : Nat) ({ cls := "WindCardShips$Orders", name := "rewind", desc := "()V" } : Jvm.MethodName) ∈ WSa := wsa_i 663 _ (by decide +kernel) (by decide +kernel)
theorem kw664 : Jvm.Cond.methodLink "WindCardShips" (107 : Nat) ({ cls := "WindCardShips$Orders", name := "readOrder", desc := "()Z" } : Jvm.MethodName) ∈ WSa := wsa_i 664 _ (by decide +kernel) (by decide +kernel)
theorem kw665 : Jvm.Cond.methodLink "WindCardShips" (111 : Nat) ({ cls := "WindCardShips$Orders", name := "obey", desc := "(LWindCardShips$Game;)I" } : Jvm.MethodName) ∈ WSa := wsa_i 665 _ (by decide +kernel) (by decide +kernel)
theorem kw666 : Jvm.Cond.instanceMethod ({ cls := "WindCardShips$Orders", name := "obey", desc := "(LWindCardShips$Game;)I" } : Jvm.MethodName) ∈ WSa := wsa_i 666 _ (by decide +kernel) (by decide +kernel)
theorem kw667 : Jvm.Cond.selects "WindCardShips$Orders" ({ cls := "WindCardShips$Orders", name := "obey", desc := "(LWindCardShips$Game;)I" } : Jvm.MethodName) ({ cls := "WindCardShips$Orders", name := "obey", desc := "(LWindCardShips$Game;)I" } : Jvm.MethodName) ∈ WSa := wsa_i 667 _ (by decide +kernel) (by decide +kernel)
theorem kw668 : Jvm.Cond.code ({ cls := "WindCardShips$Orders", name := "obey", desc := "(LWindCardShips$Game;)I" } : Jvm.MethodName) prog_6_method_16_code (2 : Nat) (Option.some Jvm.ClassFile.FieldType.int) ∈ WSa := wsa_i 668 _ (by decide +kernel) (by decide +kernel)
theorem kw669 : Jvm.Cond.methodLink "WindCardShips$Orders" (69 : Nat) ({ cls := "WindCardShips$Game", name := "tellCard", desc := "(II)I" } : Jvm.MethodName) ∈ WSa := wsa_i 669 _ (by decide +kernel) (by decide +kernel)
theorem kw670 : Jvm.Cond.methodLink "WindCardShips$Orders" (75 : Nat) ({ cls := "WindCardShips$Game", name := "sailAlong", desc := "(II)I" } : Jvm.MethodName) ∈ WSa := wsa_i 670 _ (by decide +kernel) (by decide +kernel)
theorem kw671 : Jvm.Cond.methodLink "WindCardShips$Orders" (78 : Nat) ({ cls := "WindCardShips$Game", name := "fireAt", desc := "(III)I" } : Jvm.MethodName) ∈ WSa := wsa_i 671 _ (by decide +kernel) (by decide +kernel)
theorem kw672 : Jvm.Cond.methodLink "WindCardShips$Orders" (82 : Nat) ({ cls := "WindCardShips$Game", name := "grappleTwo", desc := "(II)I" } : Jvm.MethodName) ∈ WSa := wsa_i 672 _ (by decide +kernel) (by decide +kernel)
theorem kw673 : Jvm.Cond.methodLink "WindCardShips$Orders" (85 : Nat) ({ cls := "WindCardShips$Game", name := "cutLoose", desc := "(I)I" } : Jvm.MethodName) ∈ WSa := wsa_i 673 _ (by decide +kernel) (by decide +kernel)
theorem kw674 : Jvm.Cond.methodLink "WindCardShips$Orders" (88 : Nat) ({ cls := "WindCardShips$Game", name := "mend", desc := "(II)I" } : Jvm.MethodName) ∈ WSa := wsa_i 674 _ (by decide +kernel) (by decide +kernel)
theorem kw675 : Jvm.Cond.methodLink "WindCardShips$Orders" (91 : Nat) ({ cls := "WindCardShips$Game", name := "endTurn", desc := "()I" } : Jvm.MethodName) ∈ WSa := wsa_i 675 _ (by decide +kernel) (by decide +kernel)
theorem kw676 : Jvm.Cond.methodLink "WindCardShips" (115 : Nat) ({ cls := "WindCardShips$Orders", name := "readSeparator", desc := "()Z" } : Jvm.MethodName) ∈ WSa := wsa_i 676 _ (by decide +kernel) (by decide +kernel)
theorem kw677 : Jvm.Cond.methodLink "WindCardShipsLaw" (82 : Nat) ({ cls := "WindCardShips", name := "count", desc := "(I)I" } : Jvm.MethodName) ∈ WSa := wsa_i 677 _ (by decide +kernel) (by decide +kernel)
theorem kw678 : Jvm.Cond.instanceMethod ({ cls := "WindCardShips", name := "count", desc := "(I)I" } : Jvm.MethodName) ∈ WSa := wsa_i 678 _ (by decide +kernel) (by decide +kernel)
theorem kw679 : Jvm.Cond.selects "WindCardShips" ({ cls := "WindCardShips", name := "count", desc := "(I)I" } : Jvm.MethodName) ({ cls := "WindCardShips", name := "count", desc := "(I)I" } : Jvm.MethodName) ∈ WSa := wsa_i 679 _ (by decide +kernel) (by decide +kernel)
theorem kw680 : Jvm.Cond.code ({ cls := "WindCardShips", name := "count", desc := "(I)I" } : Jvm.MethodName) prog_1_method_18_code (2 : Nat) (Option.some Jvm.ClassFile.FieldType.int) ∈ WSa := wsa_i 680 _ (by decide +kernel) (by decide +kernel)
theorem kw681 : Jvm.Cond.methodLink "WindCardShips" (122 : Nat) ({ cls := "java/lang/Integer", name := "bitCount", desc := "(I)I" } : Jvm.MethodName) ∈ WSa := wsa_i 681 _ (by decide +kernel) (by decide +kernel)
theorem kw682 : Jvm.Cond.static ({ cls := "java/lang/Integer", name := "bitCount", desc := "(I)I" } : Jvm.MethodName) ∈ WSa := wsa_i 682 _ (by decide +kernel) (by decide +kernel)
theorem kw683 : Jvm.Cond.code ({ cls := "java/lang/Integer", name := "bitCount", desc := "(I)I" } : Jvm.MethodName) prog_13_method_49_code (1 : Nat) (Option.some Jvm.ClassFile.FieldType.int) ∈ WSa := wsa_i 683 _ (by decide +kernel) (by decide +kernel)
theorem kw684 : Jvm.Cond.constant "java/lang/Integer" (265 : Nat) (1431655765 : Int32) ∈ WSa := wsa_i 684 _ (by decide +kernel) (by decide +kernel)
theorem kw685 : Jvm.Cond.constant "java/lang/Integer" (266 : Nat) (858993459 : Int32) ∈ WSa := wsa_i 685 _ (by decide +kernel) (by decide +kernel)
theorem kw686 : Jvm.Cond.constant "java/lang/Integer" (267 : Nat) (252645135 : Int32) ∈ WSa := wsa_i 686 _ (by decide +kernel) (by decide +kernel)
theorem kw687 : Jvm.Cond.methodLink "WindCardShips" (127 : Nat) ({ cls := "WindCardShips$History", name := "size", desc := "()I" } : Jvm.MethodName) ∈ WSa := wsa_i 687 _ (by decide +kernel) (by decide +kernel)
theorem kw688 : Jvm.Cond.instanceMethod ({ cls := "WindCardShips$History", name := "size", desc := "()I" } : Jvm.MethodName) ∈ WSa := wsa_i 688 _ (by decide +kernel) (by decide +kernel)
theorem kw689 : Jvm.Cond.selects "WindCardShips$History" ({ cls := "WindCardShips$History", name := "size", desc := "()I" } : Jvm.MethodName) ({ cls := "WindCardShips$History", name := "size", desc := "()I" } : Jvm.MethodName) ∈ WSa := wsa_i 689 _ (by decide +kernel) (by decide +kernel)
theorem kw690 : Jvm.Cond.code ({ cls := "WindCardShips$History", name := "size", desc := "()I" } : Jvm.MethodName) prog_5_method_2_code (1 : Nat) (Option.some Jvm.ClassFile.FieldType.int) ∈ WSa := wsa_i 690 _ (by decide +kernel) (by decide +kernel)
theorem kw691 : Jvm.Cond.methodLink "WindCardShips" (130 : Nat) ({ cls := "WindCardShips$Orders", name := "length", desc := "()I" } : Jvm.MethodName) ∈ WSa := wsa_i 691 _ (by decide +kernel) (by decide +kernel)
theorem kw692 : Jvm.Cond.instanceMethod ({ cls := "WindCardShips$Orders", name := "length", desc := "()I" } : Jvm.MethodName) ∈ WSa := wsa_i 692 _ (by decide +kernel) (by decide +kernel)
theorem kw693 : Jvm.Cond.selects "WindCardShips$Orders" ({ cls := "WindCardShips$Orders", name := "length", desc := "()I" } : Jvm.MethodName) ({ cls := "WindCardShips$Orders", name := "length", desc := "()I" } : Jvm.MethodName) ∈ WSa := wsa_i 693 _ (by decide +kernel) (by decide +kernel)
theorem kw694 : Jvm.Cond.code ({ cls := "WindCardShips$Orders", name := "length", desc := "()I" } : Jvm.MethodName) prog_6_method_2_code (1 : Nat) (Option.some Jvm.ClassFile.FieldType.int) ∈ WSa := wsa_i 694 _ (by decide +kernel) (by decide +kernel)
theorem kw695 : Jvm.Cond.methodLink "WindCardShips" (133 : Nat) ({ cls := "WindCardShips$Game", name := "tally", desc := "(I)I" } : Jvm.MethodName) ∈ WSa := wsa_i 695 _ (by decide +kernel) (by decide +kernel)
theorem kw696 : Jvm.Cond.instanceMethod ({ cls := "WindCardShips$Game", name := "tally", desc := "(I)I" } : Jvm.MethodName) ∈ WSa := wsa_i 696 _ (by decide +kernel) (by decide +kernel)
theorem kw697 : Jvm.Cond.selects "WindCardShips$Game" ({ cls := "WindCardShips$Game", name := "tally", desc := "(I)I" } : Jvm.MethodName) ({ cls := "WindCardShips$Game", name := "tally", desc := "(I)I" } : Jvm.MethodName) ∈ WSa := wsa_i 697 _ (by decide +kernel) (by decide +kernel)
theorem kw698 : Jvm.Cond.code ({ cls := "WindCardShips$Game", name := "tally", desc := "(I)I" } : Jvm.MethodName) prog_3_method_34_code (2 : Nat) (Option.some Jvm.ClassFile.FieldType.int) ∈ WSa := wsa_i 698 _ (by decide +kernel) (by decide +kernel)
theorem kw699 : Jvm.Cond.methodLink "WindCardShips$Game" (244 : Nat) ({ cls := "WindCardShips$Game", name := "fleetOf", desc := "(I)I" } : Jvm.MethodName) ∈ WSa := wsa_i 699 _ (by decide +kernel) (by decide +kernel)
theorem kw701 : Jvm.Cond.instanceMethod ({ cls := "WindCardShips$Game", name := "fleetOf", desc := "(I)I" } : Jvm.MethodName) ∈ WSa := wsa_i 701 _ (by decide +kernel) (by decide +kernel)
theorem kw702 : Jvm.Cond.code ({ cls := "WindCardShips$Game", name := "fleetOf", desc := "(I)I" } : Jvm.MethodName) prog_3_method_36_code (7 : Nat) (Option.some Jvm.ClassFile.FieldType.int) ∈ WSa := wsa_i 702 _ (by decide +kernel) (by decide +kernel)
theorem kw703 : Jvm.Cond.methodLink "WindCardShipsLaw" (86 : Nat) ({ cls := "WindCardShips", name := "captain", desc := "(II)I" } : Jvm.MethodName) ∈ WSa := wsa_i 703 _ (by decide +kernel) (by decide +kernel)
theorem kw704 : Jvm.Cond.instanceMethod ({ cls := "WindCardShips", name := "captain", desc := "(II)I" } : Jvm.MethodName) ∈ WSa := wsa_i 704 _ (by decide +kernel) (by decide +kernel)
theorem kw705 : Jvm.Cond.selects "WindCardShips" ({ cls := "WindCardShips", name := "captain", desc := "(II)I" } : Jvm.MethodName) ({ cls := "WindCardShips", name := "captain", desc := "(II)I" } : Jvm.MethodName) ∈ WSa := wsa_i 705 _ (by decide +kernel) (by decide +kernel)
theorem kw706 : Jvm.Cond.code ({ cls := "WindCardShips", name := "captain", desc := "(II)I" } : Jvm.MethodName) prog_1_method_19_code (3 : Nat) (Option.some Jvm.ClassFile.FieldType.int) ∈ WSa := wsa_i 706 _ (by decide +kernel) (by decide +kernel)
theorem kw707 : Jvm.Cond.methodLink "WindCardShips" (136 : Nat) ({ cls := "WindCardShips$Captain", name := "exists", desc := "(I)Z" } : Jvm.MethodName) ∈ WSa := wsa_i 707 _ (by decide +kernel) (by decide +kernel)
theorem kw708 : Jvm.Cond.methodLink "WindCardShips" (142 : Nat) ({ cls := "WindCardShips$Game", name := "tellOfCaptain", desc := "(II)I" } : Jvm.MethodName) ∈ WSa := wsa_i 708 _ (by decide +kernel) (by decide +kernel)
theorem kw709 : Jvm.Cond.instanceMethod ({ cls := "WindCardShips$Game", name := "tellOfCaptain", desc := "(II)I" } : Jvm.MethodName) ∈ WSa := wsa_i 709 _ (by decide +kernel) (by decide +kernel)
theorem kw710 : Jvm.Cond.selects "WindCardShips$Game" ({ cls := "WindCardShips$Game", name := "tellOfCaptain", desc := "(II)I" } : Jvm.MethodName) ({ cls := "WindCardShips$Game", name := "tellOfCaptain", desc := "(II)I" } : Jvm.MethodName) ∈ WSa := wsa_i 710 _ (by decide +kernel) (by decide +kernel)
theorem kw711 : Jvm.Cond.code ({ cls := "WindCardShips$Game", name := "tellOfCaptain", desc := "(II)I" } : Jvm.MethodName) prog_3_method_39_code (4 : Nat) (Option.some Jvm.ClassFile.FieldType.int) ∈ WSa := wsa_i 711 _ (by decide +kernel) (by decide +kernel)
theorem kw712 : Jvm.Cond.methodLink "WindCardShips$Game" (250 : Nat) ({ cls := "WindCardShips$Game", name := "hullsOf", desc := "(I)I" } : Jvm.MethodName) ∈ WSa := wsa_i 712 _ (by decide +kernel) (by decide +kernel)
theorem kw714 : Jvm.Cond.instanceMethod ({ cls := "WindCardShips$Game", name := "hullsOf", desc := "(I)I" } : Jvm.MethodName) ∈ WSa := wsa_i 714 _ (by decide +kernel) (by decide +kernel)
theorem kw715 : Jvm.Cond.code ({ cls := "WindCardShips$Game", name := "hullsOf", desc := "(I)I" } : Jvm.MethodName) prog_3_method_37_code (7 : Nat) (Option.some Jvm.ClassFile.FieldType.int) ∈ WSa := wsa_i 715 _ (by decide +kernel) (by decide +kernel)
theorem kw716 : Jvm.Cond.methodLink "WindCardShipsLaw" (90 : Nat) ({ cls := "WindCardShips", name := "ship", desc := "(II)I" } : Jvm.MethodName) ∈ WSa := wsa_i 716 _ (by decide +kernel) (by decide +kernel)
theorem kw717 : Jvm.Cond.instanceMethod ({ cls := "WindCardShips", name := "ship", desc := "(II)I" } : Jvm.MethodName) ∈ WSa := wsa_i 717 _ (by decide +kernel) (by decide +kernel)
theorem kw718 : Jvm.Cond.selects "WindCardShips" ({ cls := "WindCardShips", name := "ship", desc := "(II)I" } : Jvm.MethodName) ({ cls := "WindCardShips", name := "ship", desc := "(II)I" } : Jvm.MethodName) ∈ WSa := wsa_i 718 _ (by decide +kernel) (by decide +kernel)
theorem kw719 : Jvm.Cond.code ({ cls := "WindCardShips", name := "ship", desc := "(II)I" } : Jvm.MethodName) prog_1_method_20_code (4 : Nat) (Option.some Jvm.ClassFile.FieldType.int) ∈ WSa := wsa_i 719 _ (by decide +kernel) (by decide +kernel)
theorem kw720 : Jvm.Cond.methodLink "WindCardShips" (145 : Nat) ({ cls := "WindCardShips$Game", name := "known", desc := "(I)LWindCardShips$Ship;" } : Jvm.MethodName) ∈ WSa := wsa_i 720 _ (by decide +kernel) (by decide +kernel)
theorem kw721 : Jvm.Cond.methodLink "WindCardShips" (149 : Nat) ({ cls := "WindCardShips$Game", name := "tellOfShip", desc := "(LWindCardShips$Ship;I)I" } : Jvm.MethodName) ∈ WSa := wsa_i 721 _ (by decide +kernel) (by decide +kernel)
theorem kw722 : Jvm.Cond.instanceMethod ({ cls := "WindCardShips$Game", name := "tellOfShip", desc := "(LWindCardShips$Ship;I)I" } : Jvm.MethodName) ∈ WSa := wsa_i 722 _ (by decide +kernel) (by decide +kernel)
theorem kw723 : Jvm.Cond.selects "WindCardShips$Game" ({ cls := "WindCardShips$Game", name := "tellOfShip", desc := "(LWindCardShips$Ship;I)I" } : Jvm.MethodName) ({ cls := "WindCardShips$Game", name := "tellOfShip", desc := "(LWindCardShips$Ship;I)I" } : Jvm.MethodName) ∈ WSa := wsa_i 723 _ (by decide +kernel) (by decide +kernel)
theorem kw724 : Jvm.Cond.code ({ cls := "WindCardShips$Game", name := "tellOfShip", desc := "(LWindCardShips$Ship;I)I" } : Jvm.MethodName) prog_3_method_40_code (3 : Nat) (Option.some Jvm.ClassFile.FieldType.int) ∈ WSa := wsa_i 724 _ (by decide +kernel) (by decide +kernel)
theorem kw725 : Jvm.Cond.methodLink "WindCardShips$Game" (253 : Nat) ({ cls := "WindCardShips$Ship", name := "reloadingSides", desc := "(I)I" } : Jvm.MethodName) ∈ WSa := wsa_i 725 _ (by decide +kernel) (by decide +kernel)
theorem kw726 : Jvm.Cond.instanceMethod ({ cls := "WindCardShips$Ship", name := "reloadingSides", desc := "(I)I" } : Jvm.MethodName) ∈ WSa := wsa_i 726 _ (by decide +kernel) (by decide +kernel)
theorem kw727 : Jvm.Cond.selects "WindCardShips$Ship" ({ cls := "WindCardShips$Ship", name := "reloadingSides", desc := "(I)I" } : Jvm.MethodName) ({ cls := "WindCardShips$Ship", name := "reloadingSides", desc := "(I)I" } : Jvm.MethodName) ∈ WSa := wsa_i 727 _ (by decide +kernel) (by decide +kernel)
theorem kw728 : Jvm.Cond.code ({ cls := "WindCardShips$Ship", name := "reloadingSides", desc := "(I)I" } : Jvm.MethodName) prog_9_method_12_code (2 : Nat) (Option.some Jvm.ClassFile.FieldType.int) ∈ WSa := wsa_i 728 _ (by decide +kernel) (by decide +kernel)
theorem kw729 : Jvm.Cond.methodLink "WindCardShipsLaw" (94 : Nat) ({ cls := "WindCardShips", name := "on", desc := "(I)I" } : Jvm.MethodName) ∈ WSa := wsa_i 729 _ (by decide +kernel) (by decide +kernel)
theorem kw730 : Jvm.Cond.instanceMethod ({ cls := "WindCardShips", name := "on", desc := "(I)I" } : Jvm.MethodName) ∈ WSa := wsa_i 730 _ (by decide +kernel) (by decide +kernel)
theorem kw731 : Jvm.Cond.selects "WindCardShips" ({ cls := "WindCardShips", name := "on", desc := "(I)I" } : Jvm.MethodName) ({ cls := "WindCardShips", name := "on", desc := "(I)I" } : Jvm.MethodName) ∈ WSa := wsa_i 731 _ (by decide +kernel) (by decide +kernel)
theorem kw732 : Jvm.Cond.code ({ cls := "WindCardShips", name := "on", desc := "(I)I" } : Jvm.MethodName) prog_1_method_21_code (2 : Nat) (Option.some Jvm.ClassFile.FieldType.int) ∈ WSa := wsa_i 732 _ (by decide +kernel) (by decide +kernel)
theorem kw733 : Jvm.Cond.methodLink "WindCardShips" (153 : Nat) ({ cls := "WindCardShips$Hexes", name := "exists", desc := "(I)Z" } : Jvm.MethodName) ∈ WSa := wsa_i 733 _ (by decide +kernel) (by decide +kernel)
theorem kw734 : Jvm.Cond.methodLink "WindCardShips" (156 : Nat) ({ cls := "WindCardShips$Game", name := "contentOf", desc := "(I)I" } : Jvm.MethodName) ∈ WSa := wsa_i 734 _ (by decide +kernel) (by decide +kernel)
theorem kw735 : Jvm.Cond.instanceMethod ({ cls := "WindCardShips$Game", name := "contentOf", desc := "(I)I" } : Jvm.MethodName) ∈ WSa := wsa_i 735 _ (by decide +kernel) (by decide +kernel)
theorem kw736 : Jvm.Cond.selects "WindCardShips$Game" ({ cls := "WindCardShips$Game", name := "contentOf", desc := "(I)I" } : Jvm.MethodName) ({ cls := "WindCardShips$Game", name := "contentOf", desc := "(I)I" } : Jvm.MethodName) ∈ WSa := wsa_i 736 _ (by decide +kernel) (by decide +kernel)
theorem kw737 : Jvm.Cond.code ({ cls := "WindCardShips$Game", name := "contentOf", desc := "(I)I" } : Jvm.MethodName) prog_3_method_10_code (3 : Nat) (Option.some Jvm.ClassFile.FieldType.int) ∈ WSa := wsa_i 737 _ (by decide +kernel) (by decide +kernel)
theorem kw738 : Jvm.Cond.methodLink "WindCardShipsLaw" (98 : Nat) ({ cls := "WindCardShips", name := "targets", desc := "(II)I" } : Jvm.MethodName) ∈ WSa := wsa_i 738 _ (by decide +kernel) (by decide +kernel)
theorem kw739 : Jvm.Cond.instanceMethod ({ cls := "WindCardShips", name := "targets", desc := "(II)I" } : Jvm.MethodName) ∈ WSa := wsa_i 739 _ (by decide +kernel) (by decide +kernel)
theorem kw740 : Jvm.Cond.selects "WindCardShips" ({ cls := "WindCardShips", name := "targets", desc := "(II)I" } : Jvm.MethodName) ({ cls := "WindCardShips", name := "targets", desc := "(II)I" } : Jvm.MethodName) ∈ WSa := wsa_i 740 _ (by decide +kernel) (by decide +kernel)
theorem kw741 : Jvm.Cond.code ({ cls := "WindCardShips", name := "targets", desc := "(II)I" } : Jvm.MethodName) prog_1_method_22_code (4 : Nat) (Option.some Jvm.ClassFile.FieldType.int) ∈ WSa := wsa_i 741 _ (by decide +kernel) (by decide +kernel)
theorem kw742 : Jvm.Cond.methodLink "WindCardShips" (159 : Nat) ({ cls := "WindCardShips$Ship", name := "hasSide", desc := "(I)Z" } : Jvm.MethodName) ∈ WSa := wsa_i 742 _ (by decide +kernel) (by decide +kernel)
theorem kw743 : Jvm.Cond.methodLink "WindCardShips" (164 : Nat) ({ cls := "WindCardShips$Game", name := "targetSet", desc := "(LWindCardShips$Ship;I)I" } : Jvm.MethodName) ∈ WSa := wsa_i 743 _ (by decide +kernel) (by decide +kernel)
theorem kw744 : Jvm.Cond.instanceMethod ({ cls := "WindCardShips$Game", name := "targetSet", desc := "(LWindCardShips$Ship;I)I" } : Jvm.MethodName) ∈ WSa := wsa_i 744 _ (by decide +kernel) (by decide +kernel)
theorem kw745 : Jvm.Cond.selects "WindCardShips$Game" ({ cls := "WindCardShips$Game", name := "targetSet", desc := "(LWindCardShips$Ship;I)I" } : Jvm.MethodName) ({ cls := "WindCardShips$Game", name := "targetSet", desc := "(LWindCardShips$Ship;I)I" } : Jvm.MethodName) ∈ WSa := wsa_i 745 _ (by decide +kernel) (by decide +kernel)
theorem kw746 : Jvm.Cond.code ({ cls := "WindCardShips$Game", name := "targetSet", desc := "(LWindCardShips$Ship;I)I" } : Jvm.MethodName) prog_3_method_24_code (8 : Nat) (Option.some Jvm.ClassFile.FieldType.int) ∈ WSa := wsa_i 746 _ (by decide +kernel) (by decide +kernel)
theorem kw747 : Jvm.Cond.methodLink "WindCardShipsLaw" (102 : Nat) ({ cls := "WindCardShips", name := "hits", desc := "(III)I" } : Jvm.MethodName) ∈ WSa := wsa_i 747 _ (by decide +kernel) (by decide +kernel)
theorem kw748 : Jvm.Cond.instanceMethod ({ cls := "WindCardShips", name := "hits", desc := "(III)I" } : Jvm.MethodName) ∈ WSa := wsa_i 748 _ (by decide +kernel) (by decide +kernel)
theorem kw749 : Jvm.Cond.selects "WindCardShips" ({ cls := "WindCardShips", name := "hits", desc := "(III)I" } : Jvm.MethodName) ({ cls := "WindCardShips", name := "hits", desc := "(III)I" } : Jvm.MethodName) ∈ WSa := wsa_i 749 _ (by decide +kernel) (by decide +kernel)
theorem kw750 : Jvm.Cond.code ({ cls := "WindCardShips", name := "hits", desc := "(III)I" } : Jvm.MethodName) prog_1_method_23_code (7 : Nat) (Option.some Jvm.ClassFile.FieldType.int) ∈ WSa := wsa_i 750 _ (by decide +kernel) (by decide +kernel)
theorem kw751 : Jvm.Cond.methodLink "WindCardShips" (167 : Nat) ({ cls := "WindCardShips$Game", name := "shotLength", desc := "(LWindCardShips$Ship;ILWindCardShips$Ship;)I" } : Jvm.MethodName) ∈ WSa := wsa_i 751 _ (by decide +kernel) (by decide +kernel)
theorem kw752 : Jvm.Cond.methodLink "WindCardShips" (171 : Nat) ({ cls := "WindCardShips$Ship", name := "hitsFrom", desc := "(I)I" } : Jvm.MethodName) ∈ WSa := wsa_i 752 _ (by decide +kernel) (by decide +kernel)
theorem kw753 : Jvm.Cond.methodLink "WindCardShipsLaw" (106 : Nat) ({ cls := "WindCardShips", name := "way", desc := "(III)I" } : Jvm.MethodName) ∈ WSa := wsa_i 753 _ (by decide +kernel) (by decide +kernel)
theorem kw754 : Jvm.Cond.instanceMethod ({ cls := "WindCardShips", name := "way", desc := "(III)I" } : Jvm.MethodName) ∈ WSa := wsa_i 754 _ (by decide +kernel) (by decide +kernel)
theorem kw755 : Jvm.Cond.selects "WindCardShips" ({ cls := "WindCardShips", name := "way", desc := "(III)I" } : Jvm.MethodName) ({ cls := "WindCardShips", name := "way", desc := "(III)I" } : Jvm.MethodName) ∈ WSa := wsa_i 755 _ (by decide +kernel) (by decide +kernel)
theorem kw756 : Jvm.Cond.code ({ cls := "WindCardShips", name := "way", desc := "(III)I" } : Jvm.MethodName) prog_1_method_24_code (5 : Nat) (Option.some Jvm.ClassFile.FieldType.int) ∈ WSa := wsa_i 756 _ (by decide +kernel) (by decide +kernel)
theorem kw757 : Jvm.Cond.methodLink "WindCardShips" (174 : Nat) ({ cls := "WindCardShips$Game", name := "stepsNow", desc := "(LWindCardShips$Ship;)I" } : Jvm.MethodName) ∈ WSa := wsa_i 757 _ (by decide +kernel) (by decide +kernel)
theorem kw758 : Jvm.Cond.methodLink "WindCardShips" (178 : Nat) ({ cls := "WindCardShips$Routes", name := "explore", desc := "(LWindCardShips$Game;LWindCardShips$Ship;I)V" } : Jvm.MethodName) ∈ WSa := wsa_i 758 _ (by decide +kernel) (by decide +kernel)
theorem kw759 : Jvm.Cond.instanceMethod ({ cls := "WindCardShips$Routes", name := "explore", desc := "(LWindCardShips$Game;LWindCardShips$Ship;I)V" } : Jvm.MethodName) ∈ WSa := wsa_i 759 _ (by decide +kernel) (by decide +kernel)
theorem kw760 : Jvm.Cond.selects "WindCardShips$Routes" ({ cls := "WindCardShips$Routes", name := "explore", desc := "(LWindCardShips$Game;LWindCardShips$Ship;I)V" } : Jvm.MethodName) ({ cls := "WindCardShips$Routes", name := "explore", desc := "(LWindCardShips$Game;LWindCardShips$Ship;I)V" } : Jvm.MethodName) ∈ WSa := wsa_i 760 _ (by decide +kernel) (by decide +kernel)
theorem kw761 : Jvm.Cond.code ({ cls := "WindCardShips$Routes", name := "explore", desc := "(LWindCardShips$Game;LWindCardShips$Ship;I)V" } : Jvm.MethodName) prog_8_method_2_code (6 : Nat) (Option.none : Option Jvm.ClassFile.FieldType) ∈ WSa := wsa_i 761 _ (by decide +kernel) (by decide +kernel)
theorem kw762 : Jvm.Cond.methodLink "WindCardShips$Routes" (23 : Nat) ({ cls := "java/util/Arrays", name := "fill", desc := "([II)V" } : Jvm.MethodName) ∈ WSa := wsa_i 762 _ (by decide +kernel) (by decide +kernel)
theorem kw763 : Jvm.Cond.static ({ cls := "java/util/Arrays", name := "fill", desc := "([II)V" } : Jvm.MethodName) ∈ WSa := wsa_i 763 _ (by decide +kernel) (by decide +kernel)
theorem kw764 : Jvm.Cond.code ({ cls := "java/util/Arrays", name := "fill", desc := "([II)V" } : Jvm.MethodName) prog_16_method_103_code (4 : Nat) (Option.none : Option Jvm.ClassFile.FieldType) ∈ WSa := wsa_i 764 _ (by decide +kernel) (by decide +kernel)
theorem kw765 : Jvm.Cond.methodLink "WindCardShips$Routes" (41 : Nat) ({ cls := "WindCardShips$Routes", name := "note", desc := "(III)V" } : Jvm.MethodName) ∈ WSa := wsa_i 765 _ (by decide +kernel) (by decide +kernel)
theorem kw767 : Jvm.Cond.instanceMethod ({ cls := "WindCardShips$Routes", name := "note", desc := "(III)V" } : Jvm.MethodName) ∈ WSa := wsa_i 767 _ (by decide +kernel) (by decide +kernel)
theorem kw768 : Jvm.Cond.code ({ cls := "WindCardShips$Routes", name := "note", desc := "(III)V" } : Jvm.MethodName) prog_8_method_4_code (5 : Nat) (Option.none : Option Jvm.ClassFile.FieldType) ∈ WSa := wsa_i 768 _ (by decide +kernel) (by decide +kernel)
theorem kw769 : Jvm.Cond.methodLink "WindCardShips$Routes" (65 : Nat) ({ cls := "WindCardShips$Hexes", name := "exists", desc := "(I)Z" } : Jvm.MethodName) ∈ WSa := wsa_i 769 _ (by decide +kernel) (by decide +kernel)
theorem kw770 : Jvm.Cond.methodLink "WindCardShips$Routes" (69 : Nat) ({ cls := "WindCardShips$Hexes", name := "isDirection", desc := "(I)Z" } : Jvm.MethodName) ∈ WSa := wsa_i 770 _ (by decide +kernel) (by decide +kernel)
theorem kw771 : Jvm.Cond.methodLink "WindCardShips$Routes" (45 : Nat) ({ cls := "WindCardShips$Path", name := "stepsOf", desc := "(I)I" } : Jvm.MethodName) ∈ WSa := wsa_i 771 _ (by decide +kernel) (by decide +kernel)
theorem kw772 : Jvm.Cond.methodLink "WindCardShips$Routes" (51 : Nat) ({ cls := "WindCardShips$Routes", name := "spread", desc := "(LWindCardShips$Game;LWindCardShips$Ship;II)V" } : Jvm.MethodName) ∈ WSa := wsa_i 772 _ (by decide +kernel) (by decide +kernel)
theorem kw774 : Jvm.Cond.instanceMethod ({ cls := "WindCardShips$Routes", name := "spread", desc := "(LWindCardShips$Game;LWindCardShips$Ship;II)V" } : Jvm.MethodName) ∈ WSa := wsa_i 774 _ (by decide +kernel) (by decide +kernel)
theorem kw775 : Jvm.Cond.code ({ cls := "WindCardShips$Routes", name := "spread", desc := "(LWindCardShips$Game;LWindCardShips$Ship;II)V" } : Jvm.MethodName) prog_8_method_3_code (7 : Nat) (Option.none : Option Jvm.ClassFile.FieldType) ∈ WSa := wsa_i 775 _ (by decide +kernel) (by decide +kernel)
theorem kw776 : Jvm.Cond.methodLink "WindCardShips$Routes" (55 : Nat) ({ cls := "WindCardShips$Game", name := "hexAhead", desc := "(LWindCardShips$Ship;II)I" } : Jvm.MethodName) ∈ WSa := wsa_i 776 _ (by decide +kernel) (by decide +kernel)
theorem kw777 : Jvm.Cond.methodLink "WindCardShips$Routes" (61 : Nat) ({ cls := "WindCardShips$Path", name := "turned", desc := "(II)I" } : Jvm.MethodName) ∈ WSa := wsa_i 777 _ (by decide +kernel) (by decide +kernel)
theorem kw778 : Jvm.Cond.methodLink "WindCardShips" (182 : Nat) ({ cls := "WindCardShips$Routes", name := "tellOfWay", desc := "(II)I" } : Jvm.MethodName) ∈ WSa := wsa_i 778 _ (by decide +kernel) (by decide +kernel)
theorem kw779 : Jvm.Cond.instanceMethod ({ cls := "WindCardShips$Routes", name := "tellOfWay", desc := "(II)I" } : Jvm.MethodName) ∈ WSa := wsa_i 779 _ (by decide +kernel) (by decide +kernel)
theorem kw780 : Jvm.Cond.selects "WindCardShips$Routes" ({ cls := "WindCardShips$Routes", name := "tellOfWay", desc := "(II)I" } : Jvm.MethodName) ({ cls := "WindCardShips$Routes", name := "tellOfWay", desc := "(II)I" } : Jvm.MethodName) ∈ WSa := wsa_i 780 _ (by decide +kernel) (by decide +kernel)
theorem kw781 : Jvm.Cond.code ({ cls := "WindCardShips$Routes", name := "tellOfWay", desc := "(II)I" } : Jvm.MethodName) prog_8_method_7_code (4 : Nat) (Option.some Jvm.ClassFile.FieldType.int) ∈ WSa := wsa_i 781 _ (by decide +kernel) (by decide +kernel)
theorem kw782 : Jvm.Cond.methodLink "WindCardShips$Routes" (72 : Nat) ({ cls := "WindCardShips$Routes", name := "bestPath", desc := "(I)I" } : Jvm.MethodName) ∈ WSa := wsa_i 782 _ (by decide +kernel) (by decide +kernel)
theorem kw784 : Jvm.Cond.instanceMethod ({ cls := "WindCardShips$Routes", name := "bestPath", desc := "(I)I" } : Jvm.MethodName) ∈ WSa := wsa_i 784 _ (by decide +kernel) (by decide +kernel)
theorem kw785 : Jvm.Cond.code ({ cls := "WindCardShips$Routes", name := "bestPath", desc := "(I)I" } : Jvm.MethodName) prog_8_method_5_code (3 : Nat) (Option.some Jvm.ClassFile.FieldType.int) ∈ WSa := wsa_i 785 _ (by decide +kernel) (by decide +kernel)
theorem kw786 : Jvm.Cond.methodLink "WindCardShips$Routes" (75 : Nat) ({ cls := "WindCardShips$Routes", name := "headingAt", desc := "(I)I" } : Jvm.MethodName) ∈ WSa := wsa_i 786 _ (by decide +kernel) (by decide +kernel)
theorem kw788 : Jvm.Cond.instanceMethod ({ cls := "WindCardShips$Routes", name := "headingAt", desc := "(I)I" } : Jvm.MethodName) ∈ WSa := wsa_i 788 _ (by decide +kernel) (by decide +kernel)
theorem kw789 : Jvm.Cond.code ({ cls := "WindCardShips$Routes", name := "headingAt", desc := "(I)I" } : Jvm.MethodName) prog_8_method_8_code (2 : Nat) (Option.some Jvm.ClassFile.FieldType.int) ∈ WSa := wsa_i 789 _ (by decide +kernel) (by decide +kernel)
theorem kw790 : Jvm.Cond.methodLink "WindCardShipsLaw" (110 : Nat) ({ cls := "WindCardShips", name := "reach", desc := "(I)I" } : Jvm.MethodName) ∈ WSa := wsa_i 790 _ (by decide +kernel) (by decide +kernel)
theorem kw791 : Jvm.Cond.instanceMethod ({ cls := "WindCardShips", name := "reach", desc := "(I)I" } : Jvm.MethodName) ∈ WSa := wsa_i 791 _ (by decide +kernel) (by decide +kernel)
theorem kw792 : Jvm.Cond.selects "WindCardShips" ({ cls := "WindCardShips", name := "reach", desc := "(I)I" } : Jvm.MethodName) ({ cls := "WindCardShips", name := "reach", desc := "(I)I" } : Jvm.MethodName) ∈ WSa := wsa_i 792 _ (by decide +kernel) (by decide +kernel)
theorem kw793 : Jvm.Cond.code ({ cls := "WindCardShips", name := "reach", desc := "(I)I" } : Jvm.MethodName) prog_1_method_25_code (3 : Nat) (Option.some Jvm.ClassFile.FieldType.int) ∈ WSa := wsa_i 793 _ (by decide +kernel) (by decide +kernel)
theorem kw794 : Jvm.Cond.methodLink "WindCardShips" (185 : Nat) ({ cls := "WindCardShips$Routes", name := "reachedHexes", desc := "()I" } : Jvm.MethodName) ∈ WSa := wsa_i 794 _ (by decide +kernel) (by decide +kernel)
theorem kw795 : Jvm.Cond.instanceMethod ({ cls := "WindCardShips$Routes", name := "reachedHexes", desc := "()I" } : Jvm.MethodName) ∈ WSa := wsa_i 795 _ (by decide +kernel) (by decide +kernel)
theorem kw796 : Jvm.Cond.selects "WindCardShips$Routes" ({ cls := "WindCardShips$Routes", name := "reachedHexes", desc := "()I" } : Jvm.MethodName) ({ cls := "WindCardShips$Routes", name := "reachedHexes", desc := "()I" } : Jvm.MethodName) ∈ WSa := wsa_i 796 _ (by decide +kernel) (by decide +kernel)
theorem kw797 : Jvm.Cond.code ({ cls := "WindCardShips$Routes", name := "reachedHexes", desc := "()I" } : Jvm.MethodName) prog_8_method_9_code (3 : Nat) (Option.some Jvm.ClassFile.FieldType.int) ∈ WSa := wsa_i 797 _ (by decide +kernel) (by decide +kernel)
theorem kw798 : Jvm.Cond.methodLink "WindCardShipsLaw" (114 : Nat) ({ cls := "WindCardShips", name := "windBy", desc := "(II)I" } : Jvm.MethodName) ∈ WSa := wsa_i 798 _ (by decide +kernel) (by decide +kernel)
theorem kw799 : Jvm.Cond.instanceMethod ({ cls := "WindCardShips", name := "windBy", desc := "(II)I" } : Jvm.MethodName) ∈ WSa := wsa_i 799 _ (by decide +kernel) (by decide +kernel)
theorem kw800 : Jvm.Cond.selects "WindCardShips" ({ cls := "WindCardShips", name := "windBy", desc := "(II)I" } : Jvm.MethodName) ({ cls := "WindCardShips", name := "windBy", desc := "(II)I" } : Jvm.MethodName) ∈ WSa := wsa_i 800 _ (by decide +kernel) (by decide +kernel)
theorem kw801 : Jvm.Cond.code ({ cls := "WindCardShips", name := "windBy", desc := "(II)I" } : Jvm.MethodName) prog_1_method_26_code (4 : Nat) (Option.some Jvm.ClassFile.FieldType.int) ∈ WSa := wsa_i 801 _ (by decide +kernel) (by decide +kernel)
theorem kw802 : Jvm.Cond.methodLink "WindCardShips" (188 : Nat) ({ cls := "WindCardShips$Captain", name := "isCard", desc := "(I)Z" } : Jvm.MethodName) ∈ WSa := wsa_i 802 _ (by decide +kernel) (by decide +kernel)
theorem kw803 : Jvm.Cond.methodLink "WindCardShips" (191 : Nat) ({ cls := "WindCardShips$Game", name := "directionBy", desc := "(I)I" } : Jvm.MethodName) ∈ WSa := wsa_i 803 _ (by decide +kernel) (by decide +kernel)
theorem kw804 : Jvm.Cond.methodLink "WindCardShips" (194 : Nat) ({ cls := "WindCardShips$Game", name := "strengthBy", desc := "(I)I" } : Jvm.MethodName) ∈ WSa := wsa_i 804 _ (by decide +kernel) (by decide +kernel)
theorem kw805 : Jvm.Cond.methodLink "WindCardShipsLaw" (118 : Nat) ({ cls := "WindCardShips", name := "bestCard", desc := "(III)I" } : Jvm.MethodName) ∈ WSa := wsa_i 805 _ (by decide +kernel) (by decide +kernel)
theorem kw806 : Jvm.Cond.instanceMethod ({ cls := "WindCardShips", name := "bestCard", desc := "(III)I" } : Jvm.MethodName) ∈ WSa := wsa_i 806 _ (by decide +kernel) (by decide +kernel)
theorem kw807 : Jvm.Cond.selects "WindCardShips" ({ cls := "WindCardShips", name := "bestCard", desc := "(III)I" } : Jvm.MethodName) ({ cls := "WindCardShips", name := "bestCard", desc := "(III)I" } : Jvm.MethodName) ∈ WSa := wsa_i 807 _ (by decide +kernel) (by decide +kernel)
theorem kw808 : Jvm.Cond.code ({ cls := "WindCardShips", name := "bestCard", desc := "(III)I" } : Jvm.MethodName) prog_1_method_27_code (5 : Nat) (Option.some Jvm.ClassFile.FieldType.int) ∈ WSa := wsa_i 808 _ (by decide +kernel) (by decide +kernel)
theorem kw809 : Jvm.Cond.methodLink "WindCardShips" (197 : Nat) ({ cls := "WindCardShips$Routes", name := "fewestSteps", desc := "(I)I" } : Jvm.MethodName) ∈ WSa := wsa_i 809 _ (by decide +kernel) (by decide +kernel)
theorem kw810 : Jvm.Cond.instanceMethod ({ cls := "WindCardShips$Routes", name := "fewestSteps", desc := "(I)I" } : Jvm.MethodName) ∈ WSa := wsa_i 810 _ (by decide +kernel) (by decide +kernel)
theorem kw811 : Jvm.Cond.selects "WindCardShips$Routes" ({ cls := "WindCardShips$Routes", name := "fewestSteps", desc := "(I)I" } : Jvm.MethodName) ({ cls := "WindCardShips$Routes", name := "fewestSteps", desc := "(I)I" } : Jvm.MethodName) ∈ WSa := wsa_i 811 _ (by decide +kernel) (by decide +kernel)
theorem kw812 : Jvm.Cond.code ({ cls := "WindCardShips$Routes", name := "fewestSteps", desc := "(I)I" } : Jvm.MethodName) prog_8_method_6_code (2 : Nat) (Option.some Jvm.ClassFile.FieldType.int) ∈ WSa := wsa_i 812 _ (by decide +kernel) (by decide +kernel)
theorem kw813 : Jvm.Cond.methodLink "WindCardShips" (200 : Nat) ({ cls := "WindCardShips$Game", name := "cardFor", desc := "(LWindCardShips$Ship;II)I" } : Jvm.MethodName) ∈ WSa := wsa_i 813 _ (by decide +kernel) (by decide +kernel)
theorem kw814 : Jvm.Cond.instanceMethod ({ cls := "WindCardShips$Game", name := "cardFor", desc := "(LWindCardShips$Ship;II)I" } : Jvm.MethodName) ∈ WSa := wsa_i 814 _ (by decide +kernel) (by decide +kernel)
theorem kw815 : Jvm.Cond.selects "WindCardShips$Game" ({ cls := "WindCardShips$Game", name := "cardFor", desc := "(LWindCardShips$Ship;II)I" } : Jvm.MethodName) ({ cls := "WindCardShips$Game", name := "cardFor", desc := "(LWindCardShips$Ship;II)I" } : Jvm.MethodName) ∈ WSa := wsa_i 815 _ (by decide +kernel) (by decide +kernel)
theorem kw816 : Jvm.Cond.code ({ cls := "WindCardShips$Game", name := "cardFor", desc := "(LWindCardShips$Ship;II)I" } : Jvm.MethodName) prog_3_method_41_code (10 : Nat) (Option.some Jvm.ClassFile.FieldType.int) ∈ WSa := wsa_i 816 _ (by decide +kernel) (by decide +kernel)
theorem kw817 : Jvm.Cond.methodLink "WindCardShips$Game" (256 : Nat) ({ cls := "WindCardShips$Game", name := "cardsThatHelp", desc := "(LWindCardShips$Ship;ILWindCardShips$Captain;I)I" } : Jvm.MethodName) ∈ WSa := wsa_i 817 _ (by decide +kernel) (by decide +kernel)
theorem kw819 : Jvm.Cond.instanceMethod ({ cls := "WindCardShips$Game", name := "cardsThatHelp", desc := "(LWindCardShips$Ship;ILWindCardShips$Captain;I)I" } : Jvm.MethodName) ∈ WSa := wsa_i 819 _ (by decide +kernel) (by decide +kernel)
theorem kw820 : Jvm.Cond.code ({ cls := "WindCardShips$Game", name := "cardsThatHelp", desc := "(LWindCardShips$Ship;ILWindCardShips$Captain;I)I" } : Jvm.MethodName) prog_3_method_42_code (9 : Nat) (Option.some Jvm.ClassFile.FieldType.int) ∈ WSa := wsa_i 820 _ (by decide +kernel) (by decide +kernel)
theorem kw821 : Jvm.Cond.methodLink "WindCardShipsLaw" (122 : Nat) ({ cls := "WindCardShips", name := "threats", desc := "(I)I" } : Jvm.MethodName) ∈ WSa := wsa_i 821 _ (by decide +kernel) (by decide +kernel)
theorem kw822 : Jvm.Cond.instanceMethod ({ cls := "WindCardShips", name := "threats", desc := "(I)I" } : Jvm.MethodName) ∈ WSa := wsa_i 822 _ (by decide +kernel) (by decide +kernel)
theorem kw823 : Jvm.Cond.selects "WindCardShips" ({ cls := "WindCardShips", name := "threats", desc := "(I)I" } : Jvm.MethodName) ({ cls := "WindCardShips", name := "threats", desc := "(I)I" } : Jvm.MethodName) ∈ WSa := wsa_i 823 _ (by decide +kernel) (by decide +kernel)
theorem kw824 : Jvm.Cond.code ({ cls := "WindCardShips", name := "threats", desc := "(I)I" } : Jvm.MethodName) prog_1_method_28_code (3 : Nat) (Option.some Jvm.ClassFile.FieldType.int) ∈ WSa := wsa_i 824 _ (by decide +kernel) (by decide +kernel)
theorem kw825 : Jvm.Cond.methodLink "WindCardShips" (204 : Nat) ({ cls := "WindCardShips$Game", name := "threatSet", desc := "(LWindCardShips$Ship;)I" } : Jvm.MethodName) ∈ WSa := wsa_i 825 _ (by decide +kernel) (by decide +kernel)
theorem kw826 : Jvm.Cond.instanceMethod ({ cls := "WindCardShips$Game", name := "threatSet", desc := "(LWindCardShips$Ship;)I" } : Jvm.MethodName) ∈ WSa := wsa_i 826 _ (by decide +kernel) (by decide +kernel)
theorem kw827 : Jvm.Cond.selects "WindCardShips$Game" ({ cls := "WindCardShips$Game", name := "threatSet", desc := "(LWindCardShips$Ship;)I" } : Jvm.MethodName) ({ cls := "WindCardShips$Game", name := "threatSet", desc := "(LWindCardShips$Ship;)I" } : Jvm.MethodName) ∈ WSa := wsa_i 827 _ (by decide +kernel) (by decide +kernel)
theorem kw828 : Jvm.Cond.code ({ cls := "WindCardShips$Game", name := "threatSet", desc := "(LWindCardShips$Ship;)I" } : Jvm.MethodName) prog_3_method_25_code (7 : Nat) (Option.some Jvm.ClassFile.FieldType.int) ∈ WSa := wsa_i 828 _ (by decide +kernel) (by decide +kernel)
theorem kw829 : Jvm.Cond.methodLink "WindCardShipsLaw" (126 : Nat) ({ cls := "WindCardShips", name := "strength", desc := "(I)I" } : Jvm.MethodName) ∈ WSa := wsa_i 829 _ (by decide +kernel) (by decide +kernel)
theorem kw830 : Jvm.Cond.instanceMethod ({ cls := "WindCardShips", name := "strength", desc := "(I)I" } : Jvm.MethodName) ∈ WSa := wsa_i 830 _ (by decide +kernel) (by decide +kernel)
theorem kw831 : Jvm.Cond.selects "WindCardShips" ({ cls := "WindCardShips", name := "strength", desc := "(I)I" } : Jvm.MethodName) ({ cls := "WindCardShips", name := "strength", desc := "(I)I" } : Jvm.MethodName) ∈ WSa := wsa_i 831 _ (by decide +kernel) (by decide +kernel)
theorem kw832 : Jvm.Cond.code ({ cls := "WindCardShips", name := "strength", desc := "(I)I" } : Jvm.MethodName) prog_1_method_29_code (2 : Nat) (Option.some Jvm.ClassFile.FieldType.int) ∈ WSa := wsa_i 832 _ (by decide +kernel) (by decide +kernel)
theorem kw833 : Jvm.Cond.methodLink "WindCardShips" (207 : Nat) ({ cls := "WindCardShips$Game", name := "strengthOf", desc := "(I)I" } : Jvm.MethodName) ∈ WSa := wsa_i 833 _ (by decide +kernel) (by decide +kernel)
theorem kw834 : Jvm.Cond.instanceMethod ({ cls := "WindCardShips$Game", name := "strengthOf", desc := "(I)I" } : Jvm.MethodName) ∈ WSa := wsa_i 834 _ (by decide +kernel) (by decide +kernel)
theorem kw835 : Jvm.Cond.selects "WindCardShips$Game" ({ cls := "WindCardShips$Game", name := "strengthOf", desc := "(I)I" } : Jvm.MethodName) ({ cls := "WindCardShips$Game", name := "strengthOf", desc := "(I)I" } : Jvm.MethodName) ∈ WSa := wsa_i 835 _ (by decide +kernel) (by decide +kernel)
theorem kw836 : Jvm.Cond.code ({ cls := "WindCardShips$Game", name := "strengthOf", desc := "(I)I" } : Jvm.MethodName) prog_3_method_38_code (7 : Nat) (Option.some Jvm.ClassFile.FieldType.int) ∈ WSa := wsa_i 836 _ (by decide +kernel) (by decide +kernel)
theorem kw837 : Jvm.Cond.classLink "WindCardShipsLaw" (10 : Nat) "WindCardShipsModel" ∈ WSa := wsa_i 837 _ (by decide +kernel) (by decide +kernel)
theorem kw838 : Jvm.Cond.instantiable "WindCardShipsModel" (13 : Nat) ∈ WSa := wsa_i 838 _ (by decide +kernel) (by decide +kernel)
theorem kw839 : Jvm.Cond.methodLink "WindCardShipsLaw" (12 : Nat) ({ cls := "WindCardShipsModel", name := "<init>", desc := "()V" } : Jvm.MethodName) ∈ WSa := wsa_i 839 _ (by decide +kernel) (by decide +kernel)
theorem kw840 : Jvm.Cond.instanceMethod ({ cls := "WindCardShipsModel", name := "<init>", desc := "()V" } : Jvm.MethodName) ∈ WSa := wsa_i 840 _ (by decide +kernel) (by decide +kernel)
theorem kw841 : Jvm.Cond.code ({ cls := "WindCardShipsModel", name := "<init>", desc := "()V" } : Jvm.MethodName) prog_12_method_1_code (2 : Nat) (Option.none : Option Jvm.ClassFile.FieldType) ∈ WSa := wsa_i 841 _ (by decide +kernel) (by decide +kernel)
theorem kw842 : Jvm.Cond.methodLink "WindCardShipsModel" (1 : Nat) ({ cls := "java/lang/Object", name := "<init>", desc := "()V" } : Jvm.MethodName) ∈ WSa := wsa_i 842 _ (by decide +kernel) (by decide +kernel)
theorem kw843 : Jvm.Cond.fieldLink "WindCardShipsModel" (7 : Nat) "WindCardShipsModel" "s" "[I" ∈ WSa := wsa_i 843 _ (by decide +kernel) (by decide +kernel)
theorem kw844 : Jvm.Cond.fieldLink "WindCardShipsModel" (13 : Nat) "WindCardShipsModel" "before" "[I" ∈ WSa := wsa_i 844 _ (by decide +kernel) (by decide +kernel)
theorem kw845 : Jvm.Cond.fieldLink "WindCardShipsModel" (16 : Nat) "WindCardShipsModel" "start" "[I" ∈ WSa := wsa_i 845 _ (by decide +kernel) (by decide +kernel)
theorem kw846 : Jvm.Cond.fieldLink "WindCardShipsModel" (29 : Nat) "WindCardShipsModel" "undoMany" "I" ∈ WSa := wsa_i 846 _ (by decide +kernel) (by decide +kernel)
theorem kw847 : Jvm.Cond.fieldLink "WindCardShipsModel" (162 : Nat) "WindCardShipsModel" "length" "I" ∈ WSa := wsa_i 847 _ (by decide +kernel) (by decide +kernel)
theorem kw848 : Jvm.Cond.fieldLink "WindCardShipsModel" (19 : Nat) "WindCardShipsModel" "text" "[I" ∈ WSa := wsa_i 848 _ (by decide +kernel) (by decide +kernel)
theorem kw849 : Jvm.Cond.fieldLink "WindCardShipsModel" (33 : Nat) "WindCardShipsModel" "runs" "Z" ∈ WSa := wsa_i 849 _ (by decide +kernel) (by decide +kernel)
theorem kw850 : Jvm.Cond.fieldLink "WindCardShipsModel" (104 : Nat) "WindCardShipsModel" "endHex" "I" ∈ WSa := wsa_i 850 _ (by decide +kernel) (by decide +kernel)
theorem kw851 : Jvm.Cond.fieldLink "WindCardShipsModel" (107 : Nat) "WindCardShipsModel" "endHeading" "I" ∈ WSa := wsa_i 851 _ (by decide +kernel) (by decide +kernel)
theorem kw852 : Jvm.Cond.fieldLink "WindCardShipsModel" (123 : Nat) "WindCardShipsModel" "far" "I" ∈ WSa := wsa_i 852 _ (by decide +kernel) (by decide +kernel)
theorem kw853 : Jvm.Cond.fieldLink "WindCardShipsModel" (165 : Nat) "WindCardShipsModel" "spot" "I" ∈ WSa := wsa_i 853 _ (by decide +kernel) (by decide +kernel)
theorem kw854 : Jvm.Cond.fieldLink "WindCardShipsModel" (22 : Nat) "WindCardShipsModel" "numbers" "[I" ∈ WSa := wsa_i 854 _ (by decide +kernel) (by decide +kernel)
theorem kw855 : Jvm.Cond.fieldLink "WindCardShipsModel" (25 : Nat) "WindCardShipsModel" "comes" "[Z" ∈ WSa := wsa_i 855 _ (by decide +kernel) (by decide +kernel)
theorem kw856 : Jvm.Cond.laysFinal "WindCardShipsModel" "WindCardShipsModel" "s" "[I" ∈ WSa := wsa_i 856 _ (by decide +kernel) (by decide +kernel)
theorem kw857 : Jvm.Cond.soleField "WindCardShipsModel" "s" ∈ WSa := wsa_i 857 _ (by decide +kernel) (by decide +kernel)
theorem kw858 : Jvm.Cond.laysFinal "WindCardShipsModel" "WindCardShipsModel" "before" "[I" ∈ WSa := wsa_i 858 _ (by decide +kernel) (by decide +kernel)
theorem kw859 : Jvm.Cond.soleField "WindCardShipsModel" "before" ∈ WSa := wsa_i 859 _ (by decide +kernel) (by decide +kernel)
theorem kw860 : Jvm.Cond.laysFinal "WindCardShipsModel" "WindCardShipsModel" "start" "[I" ∈ WSa := wsa_i 860 _ (by decide +kernel) (by decide +kernel)
theorem kw861 : Jvm.Cond.soleField "WindCardShipsModel" "start" ∈ WSa := wsa_i 861 _ (by decide +kernel) (by decide +kernel)
theorem kw862 : Jvm.Cond.lays "WindCardShipsModel" "WindCardShipsModel" "undoMany" "I" ∈ WSa := wsa_i 862 _ (by decide +kernel) (by decide +kernel)
theorem kw863 : Jvm.Cond.soleField "WindCardShipsModel" "undoMany" ∈ WSa := wsa_i 863 _ (by decide +kernel) (by decide +kernel)
theorem kw864 : Jvm.Cond.lays "WindCardShipsModel" "WindCardShipsModel" "length" "I" ∈ WSa := wsa_i 864 _ (by decide +kernel) (by decide +kernel)
theorem kw865 : Jvm.Cond.soleField "WindCardShipsModel" "length" ∈ WSa := wsa_i 865 _ (by decide +kernel) (by decide +kernel)
theorem kw866 : Jvm.Cond.laysFinal "WindCardShipsModel" "WindCardShipsModel" "text" "[I" ∈ WSa := wsa_i 866 _ (by decide +kernel) (by decide +kernel)
theorem kw867 : Jvm.Cond.soleField "WindCardShipsModel" "text" ∈ WSa := wsa_i 867 _ (by decide +kernel) (by decide +kernel)
theorem kw868 : Jvm.Cond.lays "WindCardShipsModel" "WindCardShipsModel" "runs" "Z" ∈ WSa := wsa_i 868 _ (by decide +kernel) (by decide +kernel)
theorem kw869 : Jvm.Cond.soleField "WindCardShipsModel" "runs" ∈ WSa := wsa_i 869 _ (by decide +kernel) (by decide +kernel)
theorem kw870 : Jvm.Cond.lays "WindCardShipsModel" "WindCardShipsModel" "endHex" "I" ∈ WSa := wsa_i 870 _ (by decide +kernel) (by decide +kernel)
theorem kw871 : Jvm.Cond.soleField "WindCardShipsModel" "endHex" ∈ WSa := wsa_i 871 _ (by decide +kernel) (by decide +kernel)
theorem kw872 : Jvm.Cond.lays "WindCardShipsModel" "WindCardShipsModel" "endHeading" "I" ∈ WSa := wsa_i 872 _ (by decide +kernel) (by decide +kernel)
theorem kw873 : Jvm.Cond.soleField "WindCardShipsModel" "endHeading" ∈ WSa := wsa_i 873 _ (by decide +kernel) (by decide +kernel)
theorem kw874 : Jvm.Cond.lays "WindCardShipsModel" "WindCardShipsModel" "far" "I" ∈ WSa := wsa_i 874 _ (by decide +kernel) (by decide +kernel)
theorem kw875 : Jvm.Cond.soleField "WindCardShipsModel" "far" ∈ WSa := wsa_i 875 _ (by decide +kernel) (by decide +kernel)
theorem kw876 : Jvm.Cond.lays "WindCardShipsModel" "WindCardShipsModel" "spot" "I" ∈ WSa := wsa_i 876 _ (by decide +kernel) (by decide +kernel)
theorem kw877 : Jvm.Cond.soleField "WindCardShipsModel" "spot" ∈ WSa := wsa_i 877 _ (by decide +kernel) (by decide +kernel)
theorem kw878 : Jvm.Cond.laysFinal "WindCardShipsModel" "WindCardShipsModel" "numbers" "[I" ∈ WSa := wsa_i 878 _ (by decide +kernel) (by decide +kernel)
theorem kw879 : Jvm.Cond.soleField "WindCardShipsModel" "numbers" ∈ WSa := wsa_i 879 _ (by decide +kernel) (by decide +kernel)
theorem kw880 : Jvm.Cond.laysFinal "WindCardShipsModel" "WindCardShipsModel" "comes" "[Z" ∈ WSa := wsa_i 880 _ (by decide +kernel) (by decide +kernel)
theorem kw881 : Jvm.Cond.soleField "WindCardShipsModel" "comes" ∈ WSa := wsa_i 881 _ (by decide +kernel) (by decide +kernel)
theorem kw882 : Jvm.Cond.superclass "WindCardShipsModel" "java/lang/Object" ∈ WSa := wsa_i 882 _ (by decide +kernel) (by decide +kernel)
theorem kw883 : Jvm.Cond.arrayClass Jvm.ClassFile.FieldType.boolean ∈ WSa := wsa_i 883 _ (by decide +kernel) (by decide +kernel)
theorem kw884 : Jvm.Cond.methodLink "WindCardShipsLaw" (17 : Nat) ({ cls := "WindCardShipsModel", name := "setIsland", desc := "(II)I" } : Jvm.MethodName) ∈ WSa := wsa_i 884 _ (by decide +kernel) (by decide +kernel)
theorem kw885 : Jvm.Cond.instanceMethod ({ cls := "WindCardShipsModel", name := "setIsland", desc := "(II)I" } : Jvm.MethodName) ∈ WSa := wsa_i 885 _ (by decide +kernel) (by decide +kernel)
theorem kw886 : Jvm.Cond.selects "WindCardShipsModel" ({ cls := "WindCardShipsModel", name := "setIsland", desc := "(II)I" } : Jvm.MethodName) ({ cls := "WindCardShipsModel", name := "setIsland", desc := "(II)I" } : Jvm.MethodName) ∈ WSa := wsa_i 886 _ (by decide +kernel) (by decide +kernel)
theorem kw887 : Jvm.Cond.code ({ cls := "WindCardShipsModel", name := "setIsland", desc := "(II)I" } : Jvm.MethodName) prog_12_method_17_code (3 : Nat) (Option.some Jvm.ClassFile.FieldType.int) ∈ WSa := wsa_i 887 _ (by decide +kernel) (by decide +kernel)
theorem kw888 : Jvm.Cond.methodLink "WindCardShipsModel" (59 : Nat) ({ cls := "WindCardShipsModel", name := "isHex", desc := "(I)Z" } : Jvm.MethodName) ∈ WSa := wsa_i 888 _ (by decide +kernel) (by decide +kernel)
theorem kw889 : Jvm.Cond.static ({ cls := "WindCardShipsModel", name := "isHex", desc := "(I)Z" } : Jvm.MethodName) ∈ WSa := wsa_i 889 _ (by decide +kernel) (by decide +kernel)
theorem kw890 : Jvm.Cond.code ({ cls := "WindCardShipsModel", name := "isHex", desc := "(I)Z" } : Jvm.MethodName) prog_12_method_6_code (1 : Nat) (Option.some Jvm.ClassFile.FieldType.boolean) ∈ WSa := wsa_i 890 _ (by decide +kernel) (by decide +kernel)
theorem kw891 : Jvm.Cond.constantLong "WindCardShipsModel" (40 : Nat) (80 : Int64) ∈ WSa := wsa_i 891 _ (by decide +kernel) (by decide +kernel)
theorem kw892 : Jvm.Cond.methodLink "WindCardShipsModel" (42 : Nat) ({ cls := "WindCardShipsModel", name := "in", desc := "(JJJ)Z" } : Jvm.MethodName) ∈ WSa := wsa_i 892 _ (by decide +kernel) (by decide +kernel)
theorem kw893 : Jvm.Cond.static ({ cls := "WindCardShipsModel", name := "in", desc := "(JJJ)Z" } : Jvm.MethodName) ∈ WSa := wsa_i 893 _ (by decide +kernel) (by decide +kernel)
theorem kw894 : Jvm.Cond.code ({ cls := "WindCardShipsModel", name := "in", desc := "(JJJ)Z" } : Jvm.MethodName) prog_12_method_2_code (6 : Nat) (Option.some Jvm.ClassFile.FieldType.boolean) ∈ WSa := wsa_i 894 _ (by decide +kernel) (by decide +kernel)
theorem kw895 : Jvm.Cond.methodLink "WindCardShipsModel" (55 : Nat) ({ cls := "WindCardShipsModel", name := "shipOn", desc := "(I)I" } : Jvm.MethodName) ∈ WSa := wsa_i 895 _ (by decide +kernel) (by decide +kernel)
theorem kw897 : Jvm.Cond.instanceMethod ({ cls := "WindCardShipsModel", name := "shipOn", desc := "(I)I" } : Jvm.MethodName) ∈ WSa := wsa_i 897 _ (by decide +kernel) (by decide +kernel)
theorem kw898 : Jvm.Cond.code ({ cls := "WindCardShipsModel", name := "shipOn", desc := "(I)I" } : Jvm.MethodName) prog_12_method_13_code (3 : Nat) (Option.some Jvm.ClassFile.FieldType.int) ∈ WSa := wsa_i 898 _ (by decide +kernel) (by decide +kernel)
theorem kw899 : Jvm.Cond.methodLink "WindCardShipsModel" (52 : Nat) ({ cls := "WindCardShipsModel", name := "get", desc := "(II)I" } : Jvm.MethodName) ∈ WSa := wsa_i 899 _ (by decide +kernel) (by decide +kernel)
theorem kw901 : Jvm.Cond.instanceMethod ({ cls := "WindCardShipsModel", name := "get", desc := "(II)I" } : Jvm.MethodName) ∈ WSa := wsa_i 901 _ (by decide +kernel) (by decide +kernel)
theorem kw902 : Jvm.Cond.code ({ cls := "WindCardShipsModel", name := "get", desc := "(II)I" } : Jvm.MethodName) prog_12_method_9_code (3 : Nat) (Option.some Jvm.ClassFile.FieldType.int) ∈ WSa := wsa_i 902 _ (by decide +kernel) (by decide +kernel)
theorem kw903 : Jvm.Cond.methodLink "WindCardShipsModel" (63 : Nat) ({ cls := "WindCardShipsModel", name := "act", desc := "()V" } : Jvm.MethodName) ∈ WSa := wsa_i 903 _ (by decide +kernel) (by decide +kernel)
theorem kw905 : Jvm.Cond.instanceMethod ({ cls := "WindCardShipsModel", name := "act", desc := "()V" } : Jvm.MethodName) ∈ WSa := wsa_i 905 _ (by decide +kernel) (by decide +kernel)
theorem kw906 : Jvm.Cond.code ({ cls := "WindCardShipsModel", name := "act", desc := "()V" } : Jvm.MethodName) prog_12_method_5_code (1 : Nat) (Option.none : Option Jvm.ClassFile.FieldType) ∈ WSa := wsa_i 906 _ (by decide +kernel) (by decide +kernel)
theorem kw907 : Jvm.Cond.methodLink "WindCardShipsModel" (37 : Nat) ({ cls := "WindCardShipsModel", name := "record", desc := "()V" } : Jvm.MethodName) ∈ WSa := wsa_i 907 _ (by decide +kernel) (by decide +kernel)
theorem kw909 : Jvm.Cond.instanceMethod ({ cls := "WindCardShipsModel", name := "record", desc := "()V" } : Jvm.MethodName) ∈ WSa := wsa_i 909 _ (by decide +kernel) (by decide +kernel)
theorem kw910 : Jvm.Cond.code ({ cls := "WindCardShipsModel", name := "record", desc := "()V" } : Jvm.MethodName) prog_12_method_4_code (2 : Nat) (Option.none : Option Jvm.ClassFile.FieldType) ∈ WSa := wsa_i 910 _ (by decide +kernel) (by decide +kernel)
theorem kw911 : Jvm.Cond.methodLink "WindCardShipsModel" (66 : Nat) ({ cls := "WindCardShipsModel", name := "islands", desc := "()I" } : Jvm.MethodName) ∈ WSa := wsa_i 911 _ (by decide +kernel) (by decide +kernel)
theorem kw913 : Jvm.Cond.instanceMethod ({ cls := "WindCardShipsModel", name := "islands", desc := "()I" } : Jvm.MethodName) ∈ WSa := wsa_i 913 _ (by decide +kernel) (by decide +kernel)
theorem kw914 : Jvm.Cond.code ({ cls := "WindCardShipsModel", name := "islands", desc := "()I" } : Jvm.MethodName) prog_12_method_16_code (3 : Nat) (Option.some Jvm.ClassFile.FieldType.int) ∈ WSa := wsa_i 914 _ (by decide +kernel) (by decide +kernel)
theorem kw915 : Jvm.Cond.methodLink "WindCardShipsLaw" (22 : Nat) ({ cls := "WindCardShipsModel", name := "addShip", desc := "(IIIIII)I" } : Jvm.MethodName) ∈ WSa := wsa_i 915 _ (by decide +kernel) (by decide +kernel)
theorem kw916 : Jvm.Cond.instanceMethod ({ cls := "WindCardShipsModel", name := "addShip", desc := "(IIIIII)I" } : Jvm.MethodName) ∈ WSa := wsa_i 916 _ (by decide +kernel) (by decide +kernel)
theorem kw917 : Jvm.Cond.selects "WindCardShipsModel" ({ cls := "WindCardShipsModel", name := "addShip", desc := "(IIIIII)I" } : Jvm.MethodName) ({ cls := "WindCardShipsModel", name := "addShip", desc := "(IIIIII)I" } : Jvm.MethodName) ∈ WSa := wsa_i 917 _ (by decide +kernel) (by decide +kernel)
theorem kw918 : Jvm.Cond.code ({ cls := "WindCardShipsModel", name := "addShip", desc := "(IIIIII)I" } : Jvm.MethodName) prog_12_method_18_code (8 : Nat) (Option.some Jvm.ClassFile.FieldType.int) ∈ WSa := wsa_i 918 _ (by decide +kernel) (by decide +kernel)
theorem kw919 : Jvm.Cond.methodLink "WindCardShipsModel" (70 : Nat) ({ cls := "WindCardShipsModel", name := "isCaptain", desc := "(I)Z" } : Jvm.MethodName) ∈ WSa := wsa_i 919 _ (by decide +kernel) (by decide +kernel)
theorem kw920 : Jvm.Cond.static ({ cls := "WindCardShipsModel", name := "isCaptain", desc := "(I)Z" } : Jvm.MethodName) ∈ WSa := wsa_i 920 _ (by decide +kernel) (by decide +kernel)
theorem kw921 : Jvm.Cond.code ({ cls := "WindCardShipsModel", name := "isCaptain", desc := "(I)Z" } : Jvm.MethodName) prog_12_method_15_code (1 : Nat) (Option.some Jvm.ClassFile.FieldType.boolean) ∈ WSa := wsa_i 921 _ (by decide +kernel) (by decide +kernel)
theorem kw922 : Jvm.Cond.constantLong "WindCardShipsModel" (73 : Nat) (5 : Int64) ∈ WSa := wsa_i 922 _ (by decide +kernel) (by decide +kernel)
theorem kw923 : Jvm.Cond.constantLong "WindCardShipsModel" (46 : Nat) (8 : Int64) ∈ WSa := wsa_i 923 _ (by decide +kernel) (by decide +kernel)
theorem kw924 : Jvm.Cond.constantLong "WindCardShipsModel" (75 : Nat) (40 : Int64) ∈ WSa := wsa_i 924 _ (by decide +kernel) (by decide +kernel)
theorem kw925 : Jvm.Cond.constantLong "WindCardShipsModel" (77 : Nat) (9 : Int64) ∈ WSa := wsa_i 925 _ (by decide +kernel) (by decide +kernel)
theorem kw926 : Jvm.Cond.methodLink "WindCardShipsModel" (79 : Nat) ({ cls := "WindCardShipsModel", name := "isFree", desc := "(I)Z" } : Jvm.MethodName) ∈ WSa := wsa_i 926 _ (by decide +kernel) (by decide +kernel)
theorem kw928 : Jvm.Cond.instanceMethod ({ cls := "WindCardShipsModel", name := "isFree", desc := "(I)Z" } : Jvm.MethodName) ∈ WSa := wsa_i 928 _ (by decide +kernel) (by decide +kernel)
theorem kw929 : Jvm.Cond.code ({ cls := "WindCardShipsModel", name := "isFree", desc := "(I)Z" } : Jvm.MethodName) prog_12_method_14_code (2 : Nat) (Option.some Jvm.ClassFile.FieldType.boolean) ∈ WSa := wsa_i 929 _ (by decide +kernel) (by decide +kernel)
theorem kw930 : Jvm.Cond.methodLink "WindCardShipsModel" (82 : Nat) ({ cls := "WindCardShipsModel", name := "put", desc := "(III)V" } : Jvm.MethodName) ∈ WSa := wsa_i 930 _ (by decide +kernel) (by decide +kernel)
theorem kw932 : Jvm.Cond.instanceMethod ({ cls := "WindCardShipsModel", name := "put", desc := "(III)V" } : Jvm.MethodName) ∈ WSa := wsa_i 932 _ (by decide +kernel) (by decide +kernel)
theorem kw933 : Jvm.Cond.code ({ cls := "WindCardShipsModel", name := "put", desc := "(III)V" } : Jvm.MethodName) prog_12_method_10_code (4 : Nat) (Option.none : Option Jvm.ClassFile.FieldType) ∈ WSa := wsa_i 933 _ (by decide +kernel) (by decide +kernel)
theorem kw934 : Jvm.Cond.methodLink "WindCardShipsLaw" (26 : Nat) ({ cls := "WindCardShipsModel", name := "setTimber", desc := "(II)I" } : Jvm.MethodName) ∈ WSa := wsa_i 934 _ (by decide +kernel) (by decide +kernel)
theorem kw935 : Jvm.Cond.instanceMethod ({ cls := "WindCardShipsModel", name := "setTimber", desc := "(II)I" } : Jvm.MethodName) ∈ WSa := wsa_i 935 _ (by decide +kernel) (by decide +kernel)
theorem kw936 : Jvm.Cond.selects "WindCardShipsModel" ({ cls := "WindCardShipsModel", name := "setTimber", desc := "(II)I" } : Jvm.MethodName) ({ cls := "WindCardShipsModel", name := "setTimber", desc := "(II)I" } : Jvm.MethodName) ∈ WSa := wsa_i 936 _ (by decide +kernel) (by decide +kernel)
theorem kw937 : Jvm.Cond.code ({ cls := "WindCardShipsModel", name := "setTimber", desc := "(II)I" } : Jvm.MethodName) prog_12_method_19_code (4 : Nat) (Option.some Jvm.ClassFile.FieldType.int) ∈ WSa := wsa_i 937 _ (by decide +kernel) (by decide +kernel)
theorem kw938 : Jvm.Cond.constantLong "WindCardShipsModel" (86 : Nat) (99 : Int64) ∈ WSa := wsa_i 938 _ (by decide +kernel) (by decide +kernel)
theorem kw939 : Jvm.Cond.methodLink "WindCardShipsLaw" (30 : Nat) ({ cls := "WindCardShipsModel", name := "tell", desc := "(II)I" } : Jvm.MethodName) ∈ WSa := wsa_i 939 _ (by decide +kernel) (by decide +kernel)
theorem kw940 : Jvm.Cond.instanceMethod ({ cls := "WindCardShipsModel", name := "tell", desc := "(II)I" } : Jvm.MethodName) ∈ WSa := wsa_i 940 _ (by decide +kernel) (by decide +kernel)
theorem kw941 : Jvm.Cond.selects "WindCardShipsModel" ({ cls := "WindCardShipsModel", name := "tell", desc := "(II)I" } : Jvm.MethodName) ({ cls := "WindCardShipsModel", name := "tell", desc := "(II)I" } : Jvm.MethodName) ∈ WSa := wsa_i 941 _ (by decide +kernel) (by decide +kernel)
theorem kw942 : Jvm.Cond.code ({ cls := "WindCardShipsModel", name := "tell", desc := "(II)I" } : Jvm.MethodName) prog_12_method_21_code (5 : Nat) (Option.some Jvm.ClassFile.FieldType.int) ∈ WSa := wsa_i 942 _ (by decide +kernel) (by decide +kernel)
theorem kw943 : Jvm.Cond.methodLink "WindCardShipsModel" (88 : Nat) ({ cls := "WindCardShipsModel", name := "has", desc := "(II)Z" } : Jvm.MethodName) ∈ WSa := wsa_i 943 _ (by decide +kernel) (by decide +kernel)
theorem kw944 : Jvm.Cond.static ({ cls := "WindCardShipsModel", name := "has", desc := "(II)Z" } : Jvm.MethodName) ∈ WSa := wsa_i 944 _ (by decide +kernel) (by decide +kernel)
theorem kw945 : Jvm.Cond.code ({ cls := "WindCardShipsModel", name := "has", desc := "(II)Z" } : Jvm.MethodName) prog_12_method_3_code (2 : Nat) (Option.some Jvm.ClassFile.FieldType.boolean) ∈ WSa := wsa_i 945 _ (by decide +kernel) (by decide +kernel)
theorem kw946 : Jvm.Cond.methodLink "WindCardShipsModel" (92 : Nat) ({ cls := "WindCardShipsModel", name := "toldSet", desc := "()I" } : Jvm.MethodName) ∈ WSa := wsa_i 946 _ (by decide +kernel) (by decide +kernel)
theorem kw948 : Jvm.Cond.instanceMethod ({ cls := "WindCardShipsModel", name := "toldSet", desc := "()I" } : Jvm.MethodName) ∈ WSa := wsa_i 948 _ (by decide +kernel) (by decide +kernel)
theorem kw949 : Jvm.Cond.code ({ cls := "WindCardShipsModel", name := "toldSet", desc := "()I" } : Jvm.MethodName) prog_12_method_20_code (1 : Nat) (Option.some Jvm.ClassFile.FieldType.int) ∈ WSa := wsa_i 949 _ (by decide +kernel) (by decide +kernel)
theorem kw950 : Jvm.Cond.methodLink "WindCardShipsLaw" (34 : Nat) ({ cls := "WindCardShipsModel", name := "sail", desc := "(II)I" } : Jvm.MethodName) ∈ WSa := wsa_i 950 _ (by decide +kernel) (by decide +kernel)
theorem kw951 : Jvm.Cond.instanceMethod ({ cls := "WindCardShipsModel", name := "sail", desc := "(II)I" } : Jvm.MethodName) ∈ WSa := wsa_i 951 _ (by decide +kernel) (by decide +kernel)
theorem kw952 : Jvm.Cond.selects "WindCardShipsModel" ({ cls := "WindCardShipsModel", name := "sail", desc := "(II)I" } : Jvm.MethodName) ({ cls := "WindCardShipsModel", name := "sail", desc := "(II)I" } : Jvm.MethodName) ∈ WSa := wsa_i 952 _ (by decide +kernel) (by decide +kernel)
theorem kw953 : Jvm.Cond.code ({ cls := "WindCardShipsModel", name := "sail", desc := "(II)I" } : Jvm.MethodName) prog_12_method_26_code (4 : Nat) (Option.some Jvm.ClassFile.FieldType.int) ∈ WSa := wsa_i 953 _ (by decide +kernel) (by decide +kernel)
theorem kw954 : Jvm.Cond.methodLink "WindCardShipsModel" (110 : Nat) ({ cls := "WindCardShipsModel", name := "sizeOf", desc := "(I)I" } : Jvm.MethodName) ∈ WSa := wsa_i 954 _ (by decide +kernel) (by decide +kernel)
theorem kw955 : Jvm.Cond.static ({ cls := "WindCardShipsModel", name := "sizeOf", desc := "(I)I" } : Jvm.MethodName) ∈ WSa := wsa_i 955 _ (by decide +kernel) (by decide +kernel)
theorem kw956 : Jvm.Cond.code ({ cls := "WindCardShipsModel", name := "sizeOf", desc := "(I)I" } : Jvm.MethodName) prog_12_method_24_code (3 : Nat) (Option.some Jvm.ClassFile.FieldType.int) ∈ WSa := wsa_i 956 _ (by decide +kernel) (by decide +kernel)
theorem kw957 : Jvm.Cond.constantLong "WindCardShipsModel" (102 : Nat) (3 : Int64) ∈ WSa := wsa_i 957 _ (by decide +kernel) (by decide +kernel)
theorem kw958 : Jvm.Cond.methodLink "WindCardShipsModel" (113 : Nat) ({ cls := "WindCardShipsModel", name := "isShip", desc := "(I)Z" } : Jvm.MethodName) ∈ WSa := wsa_i 958 _ (by decide +kernel) (by decide +kernel)
theorem kw960 : Jvm.Cond.instanceMethod ({ cls := "WindCardShipsModel", name := "isShip", desc := "(I)Z" } : Jvm.MethodName) ∈ WSa := wsa_i 960 _ (by decide +kernel) (by decide +kernel)
theorem kw961 : Jvm.Cond.code ({ cls := "WindCardShipsModel", name := "isShip", desc := "(I)Z" } : Jvm.MethodName) prog_12_method_11_code (2 : Nat) (Option.some Jvm.ClassFile.FieldType.boolean) ∈ WSa := wsa_i 961 _ (by decide +kernel) (by decide +kernel)
theorem kw962 : Jvm.Cond.methodLink "WindCardShipsModel" (95 : Nat) ({ cls := "WindCardShipsModel", name := "floats", desc := "(I)Z" } : Jvm.MethodName) ∈ WSa := wsa_i 962 _ (by decide +kernel) (by decide +kernel)
theorem kw964 : Jvm.Cond.instanceMethod ({ cls := "WindCardShipsModel", name := "floats", desc := "(I)Z" } : Jvm.MethodName) ∈ WSa := wsa_i 964 _ (by decide +kernel) (by decide +kernel)
theorem kw965 : Jvm.Cond.code ({ cls := "WindCardShipsModel", name := "floats", desc := "(I)Z" } : Jvm.MethodName) prog_12_method_12_code (2 : Nat) (Option.some Jvm.ClassFile.FieldType.boolean) ∈ WSa := wsa_i 965 _ (by decide +kernel) (by decide +kernel)
theorem kw966 : Jvm.Cond.methodLink "WindCardShipsModel" (116 : Nat) ({ cls := "WindCardShipsModel", name := "stepsNow", desc := "(I)I" } : Jvm.MethodName) ∈ WSa := wsa_i 966 _ (by decide +kernel) (by decide +kernel)
theorem kw968 : Jvm.Cond.instanceMethod ({ cls := "WindCardShipsModel", name := "stepsNow", desc := "(I)I" } : Jvm.MethodName) ∈ WSa := wsa_i 968 _ (by decide +kernel) (by decide +kernel)
theorem kw969 : Jvm.Cond.code ({ cls := "WindCardShipsModel", name := "stepsNow", desc := "(I)I" } : Jvm.MethodName) prog_12_method_23_code (2 : Nat) (Option.some Jvm.ClassFile.FieldType.int) ∈ WSa := wsa_i 969 _ (by decide +kernel) (by decide +kernel)
theorem kw970 : Jvm.Cond.methodLink "WindCardShipsModel" (98 : Nat) ({ cls := "WindCardShipsModel", name := "stepsBy", desc := "(III)I" } : Jvm.MethodName) ∈ WSa := wsa_i 970 _ (by decide +kernel) (by decide +kernel)
theorem kw972 : Jvm.Cond.instanceMethod ({ cls := "WindCardShipsModel", name := "stepsBy", desc := "(III)I" } : Jvm.MethodName) ∈ WSa := wsa_i 972 _ (by decide +kernel) (by decide +kernel)
theorem kw973 : Jvm.Cond.code ({ cls := "WindCardShipsModel", name := "stepsBy", desc := "(III)I" } : Jvm.MethodName) prog_12_method_22_code (7 : Nat) (Option.some Jvm.ClassFile.FieldType.int) ∈ WSa := wsa_i 973 _ (by decide +kernel) (by decide +kernel)
theorem kw974 : Jvm.Cond.methodLink "WindCardShipsModel" (119 : Nat) ({ cls := "WindCardShipsModel", name := "goes", desc := "(III)Z" } : Jvm.MethodName) ∈ WSa := wsa_i 974 _ (by decide +kernel) (by decide +kernel)
theorem kw976 : Jvm.Cond.instanceMethod ({ cls := "WindCardShipsModel", name := "goes", desc := "(III)Z" } : Jvm.MethodName) ∈ WSa := wsa_i 976 _ (by decide +kernel) (by decide +kernel)
theorem kw977 : Jvm.Cond.code ({ cls := "WindCardShipsModel", name := "goes", desc := "(III)Z" } : Jvm.MethodName) prog_12_method_25_code (8 : Nat) (Option.some Jvm.ClassFile.FieldType.boolean) ∈ WSa := wsa_i 977 _ (by decide +kernel) (by decide +kernel)
theorem kw978 : Jvm.Cond.methodLink "WindCardShipsModel" (48 : Nat) ({ cls := "WindCardShipsModel", name := "next", desc := "(II)I" } : Jvm.MethodName) ∈ WSa := wsa_i 978 _ (by decide +kernel) (by decide +kernel)
theorem kw979 : Jvm.Cond.static ({ cls := "WindCardShipsModel", name := "next", desc := "(II)I" } : Jvm.MethodName) ∈ WSa := wsa_i 979 _ (by decide +kernel) (by decide +kernel)
theorem kw980 : Jvm.Cond.code ({ cls := "WindCardShipsModel", name := "next", desc := "(II)I" } : Jvm.MethodName) prog_12_method_7_code (6 : Nat) (Option.some Jvm.ClassFile.FieldType.int) ∈ WSa := wsa_i 980 _ (by decide +kernel) (by decide +kernel)
theorem kw981 : Jvm.Cond.methodLink "WindCardShipsLaw" (39 : Nat) ({ cls := "WindCardShipsModel", name := "fire", desc := "(III)I" } : Jvm.MethodName) ∈ WSa := wsa_i 981 _ (by decide +kernel) (by decide +kernel)
theorem kw982 : Jvm.Cond.instanceMethod ({ cls := "WindCardShipsModel", name := "fire", desc := "(III)I" } : Jvm.MethodName) ∈ WSa := wsa_i 982 _ (by decide +kernel) (by decide +kernel)
theorem kw983 : Jvm.Cond.selects "WindCardShipsModel" ({ cls := "WindCardShipsModel", name := "fire", desc := "(III)I" } : Jvm.MethodName) ({ cls := "WindCardShipsModel", name := "fire", desc := "(III)I" } : Jvm.MethodName) ∈ WSa := wsa_i 983 _ (by decide +kernel) (by decide +kernel)
theorem kw984 : Jvm.Cond.code ({ cls := "WindCardShipsModel", name := "fire", desc := "(III)I" } : Jvm.MethodName) prog_12_method_34_code (6 : Nat) (Option.some Jvm.ClassFile.FieldType.int) ∈ WSa := wsa_i 984 _ (by decide +kernel) (by decide +kernel)
theorem kw985 : Jvm.Cond.methodLink "WindCardShipsModel" (129 : Nat) ({ cls := "WindCardShipsModel", name := "areTwo", desc := "(II)Z" } : Jvm.MethodName) ∈ WSa := wsa_i 985 _ (by decide +kernel) (by decide +kernel)
theorem kw987 : Jvm.Cond.instanceMethod ({ cls := "WindCardShipsModel", name := "areTwo", desc := "(II)Z" } : Jvm.MethodName) ∈ WSa := wsa_i 987 _ (by decide +kernel) (by decide +kernel)
theorem kw988 : Jvm.Cond.code ({ cls := "WindCardShipsModel", name := "areTwo", desc := "(II)Z" } : Jvm.MethodName) prog_12_method_33_code (3 : Nat) (Option.some Jvm.ClassFile.FieldType.boolean) ∈ WSa := wsa_i 988 _ (by decide +kernel) (by decide +kernel)
theorem kw989 : Jvm.Cond.methodLink "WindCardShipsModel" (132 : Nat) ({ cls := "WindCardShipsModel", name := "farBy", desc := "(III)I" } : Jvm.MethodName) ∈ WSa := wsa_i 989 _ (by decide +kernel) (by decide +kernel)
theorem kw991 : Jvm.Cond.instanceMethod ({ cls := "WindCardShipsModel", name := "farBy", desc := "(III)I" } : Jvm.MethodName) ∈ WSa := wsa_i 991 _ (by decide +kernel) (by decide +kernel)
theorem kw992 : Jvm.Cond.code ({ cls := "WindCardShipsModel", name := "farBy", desc := "(III)I" } : Jvm.MethodName) prog_12_method_28_code (6 : Nat) (Option.some Jvm.ClassFile.FieldType.int) ∈ WSa := wsa_i 992 _ (by decide +kernel) (by decide +kernel)
theorem kw993 : Jvm.Cond.methodLink "WindCardShipsModel" (126 : Nat) ({ cls := "WindCardShipsModel", name := "onLine", desc := "(II)I" } : Jvm.MethodName) ∈ WSa := wsa_i 993 _ (by decide +kernel) (by decide +kernel)
theorem kw995 : Jvm.Cond.instanceMethod ({ cls := "WindCardShipsModel", name := "onLine", desc := "(II)I" } : Jvm.MethodName) ∈ WSa := wsa_i 995 _ (by decide +kernel) (by decide +kernel)
theorem kw996 : Jvm.Cond.code ({ cls := "WindCardShipsModel", name := "onLine", desc := "(II)I" } : Jvm.MethodName) prog_12_method_27_code (5 : Nat) (Option.some Jvm.ClassFile.FieldType.int) ∈ WSa := wsa_i 996 _ (by decide +kernel) (by decide +kernel)
theorem kw997 : Jvm.Cond.methodLink "WindCardShipsModel" (135 : Nat) ({ cls := "WindCardShipsModel", name := "mayFire", desc := "(II)Z" } : Jvm.MethodName) ∈ WSa := wsa_i 997 _ (by decide +kernel) (by decide +kernel)
theorem kw999 : Jvm.Cond.instanceMethod ({ cls := "WindCardShipsModel", name := "mayFire", desc := "(II)Z" } : Jvm.MethodName) ∈ WSa := wsa_i 999 _ (by decide +kernel) (by decide +kernel)
theorem kw1000 : Jvm.Cond.code ({ cls := "WindCardShipsModel", name := "mayFire", desc := "(II)Z" } : Jvm.MethodName) prog_12_method_30_code (3 : Nat) (Option.some Jvm.ClassFile.FieldType.boolean) ∈ WSa := wsa_i 1000 _ (by decide +kernel) (by decide +kernel)
theorem kw1001 : Jvm.Cond.methodLink "WindCardShipsModel" (138 : Nat) ({ cls := "WindCardShipsModel", name := "hitsAt", desc := "(II)I" } : Jvm.MethodName) ∈ WSa := wsa_i 1001 _ (by decide +kernel) (by decide +kernel)
theorem kw1003 : Jvm.Cond.instanceMethod ({ cls := "WindCardShipsModel", name := "hitsAt", desc := "(II)I" } : Jvm.MethodName) ∈ WSa := wsa_i 1003 _ (by decide +kernel) (by decide +kernel)
theorem kw1004 : Jvm.Cond.code ({ cls := "WindCardShipsModel", name := "hitsAt", desc := "(II)I" } : Jvm.MethodName) prog_12_method_29_code (4 : Nat) (Option.some Jvm.ClassFile.FieldType.int) ∈ WSa := wsa_i 1004 _ (by decide +kernel) (by decide +kernel)
theorem kw1005 : Jvm.Cond.methodLink "WindCardShipsModel" (141 : Nat) ({ cls := "WindCardShipsModel", name := "lose", desc := "(III)V" } : Jvm.MethodName) ∈ WSa := wsa_i 1005 _ (by decide +kernel) (by decide +kernel)
theorem kw1007 : Jvm.Cond.instanceMethod ({ cls := "WindCardShipsModel", name := "lose", desc := "(III)V" } : Jvm.MethodName) ∈ WSa := wsa_i 1007 _ (by decide +kernel) (by decide +kernel)
theorem kw1008 : Jvm.Cond.code ({ cls := "WindCardShipsModel", name := "lose", desc := "(III)V" } : Jvm.MethodName) prog_12_method_31_code (5 : Nat) (Option.none : Option Jvm.ClassFile.FieldType) ∈ WSa := wsa_i 1008 _ (by decide +kernel) (by decide +kernel)
theorem kw1009 : Jvm.Cond.methodLink "WindCardShipsModel" (144 : Nat) ({ cls := "WindCardShipsModel", name := "free", desc := "(I)V" } : Jvm.MethodName) ∈ WSa := wsa_i 1009 _ (by decide +kernel) (by decide +kernel)
theorem kw1011 : Jvm.Cond.instanceMethod ({ cls := "WindCardShipsModel", name := "free", desc := "(I)V" } : Jvm.MethodName) ∈ WSa := wsa_i 1011 _ (by decide +kernel) (by decide +kernel)
theorem kw1012 : Jvm.Cond.code ({ cls := "WindCardShipsModel", name := "free", desc := "(I)V" } : Jvm.MethodName) prog_12_method_32_code (3 : Nat) (Option.none : Option Jvm.ClassFile.FieldType) ∈ WSa := wsa_i 1012 _ (by decide +kernel) (by decide +kernel)
theorem kw1013 : Jvm.Cond.methodLink "WindCardShipsLaw" (43 : Nat) ({ cls := "WindCardShipsModel", name := "grapple", desc := "(II)I" } : Jvm.MethodName) ∈ WSa := wsa_i 1013 _ (by decide +kernel) (by decide +kernel)
theorem kw1014 : Jvm.Cond.instanceMethod ({ cls := "WindCardShipsModel", name := "grapple", desc := "(II)I" } : Jvm.MethodName) ∈ WSa := wsa_i 1014 _ (by decide +kernel) (by decide +kernel)
theorem kw1015 : Jvm.Cond.selects "WindCardShipsModel" ({ cls := "WindCardShipsModel", name := "grapple", desc := "(II)I" } : Jvm.MethodName) ({ cls := "WindCardShipsModel", name := "grapple", desc := "(II)I" } : Jvm.MethodName) ∈ WSa := wsa_i 1015 _ (by decide +kernel) (by decide +kernel)
theorem kw1016 : Jvm.Cond.code ({ cls := "WindCardShipsModel", name := "grapple", desc := "(II)I" } : Jvm.MethodName) prog_12_method_35_code (4 : Nat) (Option.some Jvm.ClassFile.FieldType.int) ∈ WSa := wsa_i 1016 _ (by decide +kernel) (by decide +kernel)
theorem kw1017 : Jvm.Cond.methodLink "WindCardShipsModel" (148 : Nat) ({ cls := "WindCardShipsModel", name := "areBeside", desc := "(II)Z" } : Jvm.MethodName) ∈ WSa := wsa_i 1017 _ (by decide +kernel) (by decide +kernel)
theorem kw1018 : Jvm.Cond.static ({ cls := "WindCardShipsModel", name := "areBeside", desc := "(II)Z" } : Jvm.MethodName) ∈ WSa := wsa_i 1018 _ (by decide +kernel) (by decide +kernel)
theorem kw1019 : Jvm.Cond.code ({ cls := "WindCardShipsModel", name := "areBeside", desc := "(II)Z" } : Jvm.MethodName) prog_12_method_8_code (4 : Nat) (Option.some Jvm.ClassFile.FieldType.boolean) ∈ WSa := wsa_i 1019 _ (by decide +kernel) (by decide +kernel)
theorem kw1020 : Jvm.Cond.methodLink "WindCardShipsLaw" (48 : Nat) ({ cls := "WindCardShipsModel", name := "cut", desc := "(I)I" } : Jvm.MethodName) ∈ WSa := wsa_i 1020 _ (by decide +kernel) (by decide +kernel)
theorem kw1021 : Jvm.Cond.instanceMethod ({ cls := "WindCardShipsModel", name := "cut", desc := "(I)I" } : Jvm.MethodName) ∈ WSa := wsa_i 1021 _ (by decide +kernel) (by decide +kernel)
theorem kw1022 : Jvm.Cond.selects "WindCardShipsModel" ({ cls := "WindCardShipsModel", name := "cut", desc := "(I)I" } : Jvm.MethodName) ({ cls := "WindCardShipsModel", name := "cut", desc := "(I)I" } : Jvm.MethodName) ∈ WSa := wsa_i 1022 _ (by decide +kernel) (by decide +kernel)
theorem kw1023 : Jvm.Cond.code ({ cls := "WindCardShipsModel", name := "cut", desc := "(I)I" } : Jvm.MethodName) prog_12_method_36_code (3 : Nat) (Option.some Jvm.ClassFile.FieldType.int) ∈ WSa := wsa_i 1023 _ (by decide +kernel) (by decide +kernel)
theorem kw1024 : Jvm.Cond.methodLink "WindCardShipsLaw" (52 : Nat) ({ cls := "WindCardShipsModel", name := "repair", desc := "(II)I" } : Jvm.MethodName) ∈ WSa := wsa_i 1024 _ (by decide +kernel) (by decide +kernel)
theorem kw1025 : Jvm.Cond.instanceMethod ({ cls := "WindCardShipsModel", name := "repair", desc := "(II)I" } : Jvm.MethodName) ∈ WSa := wsa_i 1025 _ (by decide +kernel) (by decide +kernel)
theorem kw1026 : Jvm.Cond.selects "WindCardShipsModel" ({ cls := "WindCardShipsModel", name := "repair", desc := "(II)I" } : Jvm.MethodName) ({ cls := "WindCardShipsModel", name := "repair", desc := "(II)I" } : Jvm.MethodName) ∈ WSa := wsa_i 1026 _ (by decide +kernel) (by decide +kernel)
theorem kw1027 : Jvm.Cond.code ({ cls := "WindCardShipsModel", name := "repair", desc := "(II)I" } : Jvm.MethodName) prog_12_method_38_code (7 : Nat) (Option.some Jvm.ClassFile.FieldType.int) ∈ WSa := wsa_i 1027 _ (by decide +kernel) (by decide +kernel)
theorem kw1028 : Jvm.Cond.constantLong "WindCardShipsModel" (151 : Nat) (2 : Int64) ∈ WSa := wsa_i 1028 _ (by decide +kernel) (by decide +kernel)
theorem kw1029 : Jvm.Cond.methodLink "WindCardShipsModel" (153 : Nat) ({ cls := "WindCardShipsModel", name := "gainOf", desc := "(II)I" } : Jvm.MethodName) ∈ WSa := wsa_i 1029 _ (by decide +kernel) (by decide +kernel)
theorem kw1031 : Jvm.Cond.instanceMethod ({ cls := "WindCardShipsModel", name := "gainOf", desc := "(II)I" } : Jvm.MethodName) ∈ WSa := wsa_i 1031 _ (by decide +kernel) (by decide +kernel)
theorem kw1032 : Jvm.Cond.code ({ cls := "WindCardShipsModel", name := "gainOf", desc := "(II)I" } : Jvm.MethodName) prog_12_method_37_code (5 : Nat) (Option.some Jvm.ClassFile.FieldType.int) ∈ WSa := wsa_i 1032 _ (by decide +kernel) (by decide +kernel)
theorem kw1033 : Jvm.Cond.methodLink "WindCardShipsLaw" (57 : Nat) ({ cls := "WindCardShipsModel", name := "end", desc := "()I" } : Jvm.MethodName) ∈ WSa := wsa_i 1033 _ (by decide +kernel) (by decide +kernel)
theorem kw1034 : Jvm.Cond.instanceMethod ({ cls := "WindCardShipsModel", name := "end", desc := "()I" } : Jvm.MethodName) ∈ WSa := wsa_i 1034 _ (by decide +kernel) (by decide +kernel)
theorem kw1035 : Jvm.Cond.selects "WindCardShipsModel" ({ cls := "WindCardShipsModel", name := "end", desc := "()I" } : Jvm.MethodName) ({ cls := "WindCardShipsModel", name := "end", desc := "()I" } : Jvm.MethodName) ∈ WSa := wsa_i 1035 _ (by decide +kernel) (by decide +kernel)
theorem kw1036 : Jvm.Cond.code ({ cls := "WindCardShipsModel", name := "end", desc := "()I" } : Jvm.MethodName) prog_12_method_40_code (2 : Nat) (Option.some Jvm.ClassFile.FieldType.int) ∈ WSa := wsa_i 1036 _ (by decide +kernel) (by decide +kernel)
theorem kw1037 : Jvm.Cond.methodLink "WindCardShipsModel" (156 : Nat) ({ cls := "WindCardShipsModel", name := "fight", desc := "(II)V" } : Jvm.MethodName) ∈ WSa := wsa_i 1037 _ (by decide +kernel) (by decide +kernel)
theorem kw1039 : Jvm.Cond.instanceMethod ({ cls := "WindCardShipsModel", name := "fight", desc := "(II)V" } : Jvm.MethodName) ∈ WSa := wsa_i 1039 _ (by decide +kernel) (by decide +kernel)
theorem kw1040 : Jvm.Cond.code ({ cls := "WindCardShipsModel", name := "fight", desc := "(II)V" } : Jvm.MethodName) prog_12_method_39_code (10 : Nat) (Option.none : Option Jvm.ClassFile.FieldType) ∈ WSa := wsa_i 1040 _ (by decide +kernel) (by decide +kernel)
theorem kw1041 : Jvm.Cond.methodLink "WindCardShipsLaw" (61 : Nat) ({ cls := "WindCardShipsModel", name := "take", desc := "(I)I" } : Jvm.MethodName) ∈ WSa := wsa_i 1041 _ (by decide +kernel) (by decide +kernel)
theorem kw1042 : Jvm.Cond.instanceMethod ({ cls := "WindCardShipsModel", name := "take", desc := "(I)I" } : Jvm.MethodName) ∈ WSa := wsa_i 1042 _ (by decide +kernel) (by decide +kernel)
theorem kw1043 : Jvm.Cond.selects "WindCardShipsModel" ({ cls := "WindCardShipsModel", name := "take", desc := "(I)I" } : Jvm.MethodName) ({ cls := "WindCardShipsModel", name := "take", desc := "(I)I" } : Jvm.MethodName) ∈ WSa := wsa_i 1043 _ (by decide +kernel) (by decide +kernel)
theorem kw1044 : Jvm.Cond.code ({ cls := "WindCardShipsModel", name := "take", desc := "(I)I" } : Jvm.MethodName) prog_12_method_41_code (3 : Nat) (Option.some Jvm.ClassFile.FieldType.int) ∈ WSa := wsa_i 1044 _ (by decide +kernel) (by decide +kernel)
theorem kw1045 : Jvm.Cond.methodLink "WindCardShipsLaw" (65 : Nat) ({ cls := "WindCardShipsModel", name := "restore", desc := "(I)I" } : Jvm.MethodName) ∈ WSa := wsa_i 1045 _ (by decide +kernel) (by decide +kernel)
theorem kw1046 : Jvm.Cond.instanceMethod ({ cls := "WindCardShipsModel", name := "restore", desc := "(I)I" } : Jvm.MethodName) ∈ WSa := wsa_i 1046 _ (by decide +kernel) (by decide +kernel)
theorem kw1047 : Jvm.Cond.selects "WindCardShipsModel" ({ cls := "WindCardShipsModel", name := "restore", desc := "(I)I" } : Jvm.MethodName) ({ cls := "WindCardShipsModel", name := "restore", desc := "(I)I" } : Jvm.MethodName) ∈ WSa := wsa_i 1047 _ (by decide +kernel) (by decide +kernel)
theorem kw1048 : Jvm.Cond.code ({ cls := "WindCardShipsModel", name := "restore", desc := "(I)I" } : Jvm.MethodName) prog_12_method_42_code (3 : Nat) (Option.some Jvm.ClassFile.FieldType.int) ∈ WSa := wsa_i 1048 _ (by decide +kernel) (by decide +kernel)
theorem kw1049 : Jvm.Cond.methodLink "WindCardShipsLaw" (69 : Nat) ({ cls := "WindCardShipsModel", name := "undo", desc := "()I" } : Jvm.MethodName) ∈ WSa := wsa_i 1049 _ (by decide +kernel) (by decide +kernel)
theorem kw1050 : Jvm.Cond.instanceMethod ({ cls := "WindCardShipsModel", name := "undo", desc := "()I" } : Jvm.MethodName) ∈ WSa := wsa_i 1050 _ (by decide +kernel) (by decide +kernel)
theorem kw1051 : Jvm.Cond.selects "WindCardShipsModel" ({ cls := "WindCardShipsModel", name := "undo", desc := "()I" } : Jvm.MethodName) ({ cls := "WindCardShipsModel", name := "undo", desc := "()I" } : Jvm.MethodName) ∈ WSa := wsa_i 1051 _ (by decide +kernel) (by decide +kernel)
theorem kw1052 : Jvm.Cond.code ({ cls := "WindCardShipsModel", name := "undo", desc := "()I" } : Jvm.MethodName) prog_12_method_43_code (2 : Nat) (Option.some Jvm.ClassFile.FieldType.int) ∈ WSa := wsa_i 1052 _ (by decide +kernel) (by decide +kernel)
theorem kw1053 : Jvm.Cond.methodLink "WindCardShipsLaw" (73 : Nat) ({ cls := "WindCardShipsModel", name := "append", desc := "(I)I" } : Jvm.MethodName) ∈ WSa := wsa_i 1053 _ (by decide +kernel) (by decide +kernel)
theorem kw1054 : Jvm.Cond.instanceMethod ({ cls := "WindCardShipsModel", name := "append", desc := "(I)I" } : Jvm.MethodName) ∈ WSa := wsa_i 1054 _ (by decide +kernel) (by decide +kernel)
theorem kw1055 : Jvm.Cond.selects "WindCardShipsModel" ({ cls := "WindCardShipsModel", name := "append", desc := "(I)I" } : Jvm.MethodName) ({ cls := "WindCardShipsModel", name := "append", desc := "(I)I" } : Jvm.MethodName) ∈ WSa := wsa_i 1055 _ (by decide +kernel) (by decide +kernel)
theorem kw1056 : Jvm.Cond.code ({ cls := "WindCardShipsModel", name := "append", desc := "(I)I" } : Jvm.MethodName) prog_12_method_44_code (2 : Nat) (Option.some Jvm.ClassFile.FieldType.int) ∈ WSa := wsa_i 1056 _ (by decide +kernel) (by decide +kernel)
theorem kw1057 : Jvm.Cond.constantLong "WindCardShipsModel" (160 : Nat) (255 : Int64) ∈ WSa := wsa_i 1057 _ (by decide +kernel) (by decide +kernel)
theorem kw1058 : Jvm.Cond.methodLink "WindCardShipsLaw" (77 : Nat) ({ cls := "WindCardShipsModel", name := "clearText", desc := "()I" } : Jvm.MethodName) ∈ WSa := wsa_i 1058 _ (by decide +kernel) (by decide +kernel)
theorem kw1059 : Jvm.Cond.instanceMethod ({ cls := "WindCardShipsModel", name := "clearText", desc := "()I" } : Jvm.MethodName) ∈ WSa := wsa_i 1059 _ (by decide +kernel) (by decide +kernel)
theorem kw1060 : Jvm.Cond.selects "WindCardShipsModel" ({ cls := "WindCardShipsModel", name := "clearText", desc := "()I" } : Jvm.MethodName) ({ cls := "WindCardShipsModel", name := "clearText", desc := "()I" } : Jvm.MethodName) ∈ WSa := wsa_i 1060 _ (by decide +kernel) (by decide +kernel)
theorem kw1061 : Jvm.Cond.code ({ cls := "WindCardShipsModel", name := "clearText", desc := "()I" } : Jvm.MethodName) prog_12_method_45_code (2 : Nat) (Option.some Jvm.ClassFile.FieldType.int) ∈ WSa := wsa_i 1061 _ (by decide +kernel) (by decide +kernel)
theorem kw1062 : Jvm.Cond.methodLink "WindCardShipsLaw" (81 : Nat) ({ cls := "WindCardShipsModel", name := "carryOut", desc := "()I" } : Jvm.MethodName) ∈ WSa := wsa_i 1062 _ (by decide +kernel) (by decide +kernel)
theorem kw1063 : Jvm.Cond.instanceMethod ({ cls := "WindCardShipsModel", name := "carryOut", desc := "()I" } : Jvm.MethodName) ∈ WSa := wsa_i 1063 _ (by decide +kernel) (by decide +kernel)
theorem kw1064 : Jvm.Cond.selects "WindCardShipsModel" ({ cls := "WindCardShipsModel", name := "carryOut", desc := "()I" } : Jvm.MethodName) ({ cls := "WindCardShipsModel", name := "carryOut", desc := "()I" } : Jvm.MethodName) ∈ WSa := wsa_i 1064 _ (by decide +kernel) (by decide +kernel)
theorem kw1065 : Jvm.Cond.code ({ cls := "WindCardShipsModel", name := "carryOut", desc := "()I" } : Jvm.MethodName) prog_12_method_52_code (5 : Nat) (Option.some Jvm.ClassFile.FieldType.int) ∈ WSa := wsa_i 1065 _ (by decide +kernel) (by decide +kernel)
theorem kw1066 : Jvm.Cond.methodLink "WindCardShipsModel" (206 : Nat) ({ cls := "WindCardShipsModel", name := "faultAt", desc := "()I" } : Jvm.MethodName) ∈ WSa := wsa_i 1066 _ (by decide +kernel) (by decide +kernel)
theorem kw1068 : Jvm.Cond.instanceMethod ({ cls := "WindCardShipsModel", name := "faultAt", desc := "()I" } : Jvm.MethodName) ∈ WSa := wsa_i 1068 _ (by decide +kernel) (by decide +kernel)
theorem kw1069 : Jvm.Cond.code ({ cls := "WindCardShipsModel", name := "faultAt", desc := "()I" } : Jvm.MethodName) prog_12_method_50_code (1 : Nat) (Option.some Jvm.ClassFile.FieldType.int) ∈ WSa := wsa_i 1069 _ (by decide +kernel) (by decide +kernel)
theorem kw1070 : Jvm.Cond.methodLink "WindCardShipsModel" (181 : Nat) ({ cls := "WindCardShipsModel", name := "order", desc := "()Z" } : Jvm.MethodName) ∈ WSa := wsa_i 1070 _ (by decide +kernel) (by decide +kernel)
theorem kw1072 : Jvm.Cond.instanceMethod ({ cls := "WindCardShipsModel", name := "order", desc := "()Z" } : Jvm.MethodName) ∈ WSa := wsa_i 1072 _ (by decide +kernel) (by decide +kernel)
theorem kw1073 : Jvm.Cond.code ({ cls := "WindCardShipsModel", name := "order", desc := "()Z" } : Jvm.MethodName) prog_12_method_49_code (3 : Nat) (Option.some Jvm.ClassFile.FieldType.boolean) ∈ WSa := wsa_i 1073 _ (by decide +kernel) (by decide +kernel)
theorem kw1074 : Jvm.Cond.methodLink "WindCardShipsModel" (168 : Nat) ({ cls := "WindCardShipsModel", name := "letterAt", desc := "(I)I" } : Jvm.MethodName) ∈ WSa := wsa_i 1074 _ (by decide +kernel) (by decide +kernel)
theorem kw1076 : Jvm.Cond.instanceMethod ({ cls := "WindCardShipsModel", name := "letterAt", desc := "(I)I" } : Jvm.MethodName) ∈ WSa := wsa_i 1076 _ (by decide +kernel) (by decide +kernel)
theorem kw1077 : Jvm.Cond.code ({ cls := "WindCardShipsModel", name := "letterAt", desc := "(I)I" } : Jvm.MethodName) prog_12_method_46_code (2 : Nat) (Option.some Jvm.ClassFile.FieldType.int) ∈ WSa := wsa_i 1077 _ (by decide +kernel) (by decide +kernel)
theorem kw1078 : Jvm.Cond.methodLink "WindCardShipsModel" (175 : Nat) ({ cls := "WindCardShipsModel", name := "needs", desc := "(I)I" } : Jvm.MethodName) ∈ WSa := wsa_i 1078 _ (by decide +kernel) (by decide +kernel)
theorem kw1079 : Jvm.Cond.static ({ cls := "WindCardShipsModel", name := "needs", desc := "(I)I" } : Jvm.MethodName) ∈ WSa := wsa_i 1079 _ (by decide +kernel) (by decide +kernel)
theorem kw1080 : Jvm.Cond.code ({ cls := "WindCardShipsModel", name := "needs", desc := "(I)I" } : Jvm.MethodName) prog_12_method_47_code (1 : Nat) (Option.some Jvm.ClassFile.FieldType.int) ∈ WSa := wsa_i 1080 _ (by decide +kernel) (by decide +kernel)
theorem kw1081 : Jvm.Cond.methodLink "WindCardShipsModel" (178 : Nat) ({ cls := "WindCardShipsModel", name := "number", desc := "(I)Z" } : Jvm.MethodName) ∈ WSa := wsa_i 1081 _ (by decide +kernel) (by decide +kernel)
theorem kw1083 : Jvm.Cond.instanceMethod ({ cls := "WindCardShipsModel", name := "number", desc := "(I)Z" } : Jvm.MethodName) ∈ WSa := wsa_i 1083 _ (by decide +kernel) (by decide +kernel)
theorem kw1084 : Jvm.Cond.code ({ cls := "WindCardShipsModel", name := "number", desc := "(I)Z" } : Jvm.MethodName) prog_12_method_48_code (4 : Nat) (Option.some Jvm.ClassFile.FieldType.boolean) ∈ WSa := wsa_i 1084 _ (by decide +kernel) (by decide +kernel)
theorem kw1085 : Jvm.Cond.constantLong "WindCardShipsModel" (171 : Nat) (48 : Int64) ∈ WSa := wsa_i 1085 _ (by decide +kernel) (by decide +kernel)
theorem kw1086 : Jvm.Cond.constantLong "WindCardShipsModel" (173 : Nat) (57 : Int64) ∈ WSa := wsa_i 1086 _ (by decide +kernel) (by decide +kernel)
theorem kw1087 : Jvm.Cond.methodLink "WindCardShipsModel" (209 : Nat) ({ cls := "WindCardShipsModel", name := "letterAtBegin", desc := "()I" } : Jvm.MethodName) ∈ WSa := wsa_i 1087 _ (by decide +kernel) (by decide +kernel)
theorem kw1089 : Jvm.Cond.instanceMethod ({ cls := "WindCardShipsModel", name := "letterAtBegin", desc := "()I" } : Jvm.MethodName) ∈ WSa := wsa_i 1089 _ (by decide +kernel) (by decide +kernel)
theorem kw1090 : Jvm.Cond.code ({ cls := "WindCardShipsModel", name := "letterAtBegin", desc := "()I" } : Jvm.MethodName) prog_12_method_53_code (2 : Nat) (Option.some Jvm.ClassFile.FieldType.int) ∈ WSa := wsa_i 1090 _ (by decide +kernel) (by decide +kernel)
theorem kw1091 : Jvm.Cond.constantLong "WindCardShipsModel" (215 : Nat) (97 : Int64) ∈ WSa := wsa_i 1091 _ (by decide +kernel) (by decide +kernel)
theorem kw1092 : Jvm.Cond.constantLong "WindCardShipsModel" (217 : Nat) (122 : Int64) ∈ WSa := wsa_i 1092 _ (by decide +kernel) (by decide +kernel)
theorem kw1093 : Jvm.Cond.methodLink "WindCardShipsModel" (212 : Nat) ({ cls := "WindCardShipsModel", name := "doOrder", desc := "(I)I" } : Jvm.MethodName) ∈ WSa := wsa_i 1093 _ (by decide +kernel) (by decide +kernel)
theorem kw1095 : Jvm.Cond.instanceMethod ({ cls := "WindCardShipsModel", name := "doOrder", desc := "(I)I" } : Jvm.MethodName) ∈ WSa := wsa_i 1095 _ (by decide +kernel) (by decide +kernel)
theorem kw1096 : Jvm.Cond.code ({ cls := "WindCardShipsModel", name := "doOrder", desc := "(I)I" } : Jvm.MethodName) prog_12_method_51_code (2 : Nat) (Option.some Jvm.ClassFile.FieldType.int) ∈ WSa := wsa_i 1096 _ (by decide +kernel) (by decide +kernel)
theorem kw1097 : Jvm.Cond.methodLink "WindCardShipsModel" (185 : Nat) ({ cls := "WindCardShipsModel", name := "tell", desc := "(II)I" } : Jvm.MethodName) ∈ WSa := wsa_i 1097 _ (by decide +kernel) (by decide +kernel)
theorem kw1098 : Jvm.Cond.methodLink "WindCardShipsModel" (188 : Nat) ({ cls := "WindCardShipsModel", name := "sail", desc := "(II)I" } : Jvm.MethodName) ∈ WSa := wsa_i 1098 _ (by decide +kernel) (by decide +kernel)
theorem kw1099 : Jvm.Cond.methodLink "WindCardShipsModel" (191 : Nat) ({ cls := "WindCardShipsModel", name := "fire", desc := "(III)I" } : Jvm.MethodName) ∈ WSa := wsa_i 1099 _ (by decide +kernel) (by decide +kernel)
theorem kw1100 : Jvm.Cond.methodLink "WindCardShipsModel" (194 : Nat) ({ cls := "WindCardShipsModel", name := "grapple", desc := "(II)I" } : Jvm.MethodName) ∈ WSa := wsa_i 1100 _ (by decide +kernel) (by decide +kernel)
theorem kw1101 : Jvm.Cond.methodLink "WindCardShipsModel" (197 : Nat) ({ cls := "WindCardShipsModel", name := "cut", desc := "(I)I" } : Jvm.MethodName) ∈ WSa := wsa_i 1101 _ (by decide +kernel) (by decide +kernel)
theorem kw1102 : Jvm.Cond.methodLink "WindCardShipsModel" (200 : Nat) ({ cls := "WindCardShipsModel", name := "repair", desc := "(II)I" } : Jvm.MethodName) ∈ WSa := wsa_i 1102 _ (by decide +kernel) (by decide +kernel)
theorem kw1103 : Jvm.Cond.methodLink "WindCardShipsModel" (203 : Nat) ({ cls := "WindCardShipsModel", name := "end", desc := "()I" } : Jvm.MethodName) ∈ WSa := wsa_i 1103 _ (by decide +kernel) (by decide +kernel)
theorem kw1104 : Jvm.Cond.methodLink "WindCardShipsLaw" (85 : Nat) ({ cls := "WindCardShipsModel", name := "count", desc := "(I)I" } : Jvm.MethodName) ∈ WSa := wsa_i 1104 _ (by decide +kernel) (by decide +kernel)
theorem kw1105 : Jvm.Cond.instanceMethod ({ cls := "WindCardShipsModel", name := "count", desc := "(I)I" } : Jvm.MethodName) ∈ WSa := wsa_i 1105 _ (by decide +kernel) (by decide +kernel)
theorem kw1106 : Jvm.Cond.selects "WindCardShipsModel" ({ cls := "WindCardShipsModel", name := "count", desc := "(I)I" } : Jvm.MethodName) ({ cls := "WindCardShipsModel", name := "count", desc := "(I)I" } : Jvm.MethodName) ∈ WSa := wsa_i 1106 _ (by decide +kernel) (by decide +kernel)
theorem kw1107 : Jvm.Cond.code ({ cls := "WindCardShipsModel", name := "count", desc := "(I)I" } : Jvm.MethodName) prog_12_method_55_code (2 : Nat) (Option.some Jvm.ClassFile.FieldType.int) ∈ WSa := wsa_i 1107 _ (by decide +kernel) (by decide +kernel)
theorem kw1108 : Jvm.Cond.methodLink "WindCardShipsModel" (219 : Nat) ({ cls := "WindCardShipsModel", name := "afloat", desc := "(I)I" } : Jvm.MethodName) ∈ WSa := wsa_i 1108 _ (by decide +kernel) (by decide +kernel)
theorem kw1110 : Jvm.Cond.instanceMethod ({ cls := "WindCardShipsModel", name := "afloat", desc := "(I)I" } : Jvm.MethodName) ∈ WSa := wsa_i 1110 _ (by decide +kernel) (by decide +kernel)
theorem kw1111 : Jvm.Cond.code ({ cls := "WindCardShipsModel", name := "afloat", desc := "(I)I" } : Jvm.MethodName) prog_12_method_54_code (4 : Nat) (Option.some Jvm.ClassFile.FieldType.int) ∈ WSa := wsa_i 1111 _ (by decide +kernel) (by decide +kernel)
theorem kw1112 : Jvm.Cond.methodLink "WindCardShipsLaw" (89 : Nat) ({ cls := "WindCardShipsModel", name := "captain", desc := "(II)I" } : Jvm.MethodName) ∈ WSa := wsa_i 1112 _ (by decide +kernel) (by decide +kernel)
theorem kw1113 : Jvm.Cond.instanceMethod ({ cls := "WindCardShipsModel", name := "captain", desc := "(II)I" } : Jvm.MethodName) ∈ WSa := wsa_i 1113 _ (by decide +kernel) (by decide +kernel)
theorem kw1114 : Jvm.Cond.selects "WindCardShipsModel" ({ cls := "WindCardShipsModel", name := "captain", desc := "(II)I" } : Jvm.MethodName) ({ cls := "WindCardShipsModel", name := "captain", desc := "(II)I" } : Jvm.MethodName) ∈ WSa := wsa_i 1114 _ (by decide +kernel) (by decide +kernel)
theorem kw1115 : Jvm.Cond.code ({ cls := "WindCardShipsModel", name := "captain", desc := "(II)I" } : Jvm.MethodName) prog_12_method_56_code (6 : Nat) (Option.some Jvm.ClassFile.FieldType.int) ∈ WSa := wsa_i 1115 _ (by decide +kernel) (by decide +kernel)
theorem kw1116 : Jvm.Cond.constantLong "WindCardShipsModel" (222 : Nat) (4 : Int64) ∈ WSa := wsa_i 1116 _ (by decide +kernel) (by decide +kernel)
theorem kw1117 : Jvm.Cond.methodLink "WindCardShipsLaw" (93 : Nat) ({ cls := "WindCardShipsModel", name := "ship", desc := "(II)I" } : Jvm.MethodName) ∈ WSa := wsa_i 1117 _ (by decide +kernel) (by decide +kernel)
theorem kw1118 : Jvm.Cond.instanceMethod ({ cls := "WindCardShipsModel", name := "ship", desc := "(II)I" } : Jvm.MethodName) ∈ WSa := wsa_i 1118 _ (by decide +kernel) (by decide +kernel)
theorem kw1119 : Jvm.Cond.selects "WindCardShipsModel" ({ cls := "WindCardShipsModel", name := "ship", desc := "(II)I" } : Jvm.MethodName) ({ cls := "WindCardShipsModel", name := "ship", desc := "(II)I" } : Jvm.MethodName) ∈ WSa := wsa_i 1119 _ (by decide +kernel) (by decide +kernel)
theorem kw1120 : Jvm.Cond.code ({ cls := "WindCardShipsModel", name := "ship", desc := "(II)I" } : Jvm.MethodName) prog_12_method_57_code (3 : Nat) (Option.some Jvm.ClassFile.FieldType.int) ∈ WSa := wsa_i 1120 _ (by decide +kernel) (by decide +kernel)
theorem kw1121 : Jvm.Cond.constantLong "WindCardShipsModel" (224 : Nat) (10 : Int64) ∈ WSa := wsa_i 1121 _ (by decide +kernel) (by decide +kernel)
theorem kw1122 : Jvm.Cond.methodLink "WindCardShipsLaw" (97 : Nat) ({ cls := "WindCardShipsModel", name := "on", desc := "(I)I" } : Jvm.MethodName) ∈ WSa := wsa_i 1122 _ (by decide +kernel) (by decide +kernel)
theorem kw1123 : Jvm.Cond.instanceMethod ({ cls := "WindCardShipsModel", name := "on", desc := "(I)I" } : Jvm.MethodName) ∈ WSa := wsa_i 1123 _ (by decide +kernel) (by decide +kernel)
theorem kw1124 : Jvm.Cond.selects "WindCardShipsModel" ({ cls := "WindCardShipsModel", name := "on", desc := "(I)I" } : Jvm.MethodName) ({ cls := "WindCardShipsModel", name := "on", desc := "(I)I" } : Jvm.MethodName) ∈ WSa := wsa_i 1124 _ (by decide +kernel) (by decide +kernel)
theorem kw1125 : Jvm.Cond.code ({ cls := "WindCardShipsModel", name := "on", desc := "(I)I" } : Jvm.MethodName) prog_12_method_58_code (2 : Nat) (Option.some Jvm.ClassFile.FieldType.int) ∈ WSa := wsa_i 1125 _ (by decide +kernel) (by decide +kernel)
theorem kw1126 : Jvm.Cond.methodLink "WindCardShipsLaw" (101 : Nat) ({ cls := "WindCardShipsModel", name := "targets", desc := "(II)I" } : Jvm.MethodName) ∈ WSa := wsa_i 1126 _ (by decide +kernel) (by decide +kernel)
theorem kw1127 : Jvm.Cond.instanceMethod ({ cls := "WindCardShipsModel", name := "targets", desc := "(II)I" } : Jvm.MethodName) ∈ WSa := wsa_i 1127 _ (by decide +kernel) (by decide +kernel)
theorem kw1128 : Jvm.Cond.selects "WindCardShipsModel" ({ cls := "WindCardShipsModel", name := "targets", desc := "(II)I" } : Jvm.MethodName) ({ cls := "WindCardShipsModel", name := "targets", desc := "(II)I" } : Jvm.MethodName) ∈ WSa := wsa_i 1128 _ (by decide +kernel) (by decide +kernel)
theorem kw1129 : Jvm.Cond.code ({ cls := "WindCardShipsModel", name := "targets", desc := "(II)I" } : Jvm.MethodName) prog_12_method_59_code (5 : Nat) (Option.some Jvm.ClassFile.FieldType.int) ∈ WSa := wsa_i 1129 _ (by decide +kernel) (by decide +kernel)
theorem kw1130 : Jvm.Cond.methodLink "WindCardShipsLaw" (105 : Nat) ({ cls := "WindCardShipsModel", name := "hits", desc := "(III)I" } : Jvm.MethodName) ∈ WSa := wsa_i 1130 _ (by decide +kernel) (by decide +kernel)
theorem kw1131 : Jvm.Cond.instanceMethod ({ cls := "WindCardShipsModel", name := "hits", desc := "(III)I" } : Jvm.MethodName) ∈ WSa := wsa_i 1131 _ (by decide +kernel) (by decide +kernel)
theorem kw1132 : Jvm.Cond.selects "WindCardShipsModel" ({ cls := "WindCardShipsModel", name := "hits", desc := "(III)I" } : Jvm.MethodName) ({ cls := "WindCardShipsModel", name := "hits", desc := "(III)I" } : Jvm.MethodName) ∈ WSa := wsa_i 1132 _ (by decide +kernel) (by decide +kernel)
theorem kw1133 : Jvm.Cond.code ({ cls := "WindCardShipsModel", name := "hits", desc := "(III)I" } : Jvm.MethodName) prog_12_method_60_code (5 : Nat) (Option.some Jvm.ClassFile.FieldType.int) ∈ WSa := wsa_i 1133 _ (by decide +kernel) (by decide +kernel)
theorem kw1134 : Jvm.Cond.methodLink "WindCardShipsLaw" (109 : Nat) ({ cls := "WindCardShipsModel", name := "way", desc := "(III)I" } : Jvm.MethodName) ∈ WSa := wsa_i 1134 _ (by decide +kernel) (by decide +kernel)
theorem kw1135 : Jvm.Cond.instanceMethod ({ cls := "WindCardShipsModel", name := "way", desc := "(III)I" } : Jvm.MethodName) ∈ WSa := wsa_i 1135 _ (by decide +kernel) (by decide +kernel)
theorem kw1136 : Jvm.Cond.selects "WindCardShipsModel" ({ cls := "WindCardShipsModel", name := "way", desc := "(III)I" } : Jvm.MethodName) ({ cls := "WindCardShipsModel", name := "way", desc := "(III)I" } : Jvm.MethodName) ∈ WSa := wsa_i 1136 _ (by decide +kernel) (by decide +kernel)
theorem kw1137 : Jvm.Cond.code ({ cls := "WindCardShipsModel", name := "way", desc := "(III)I" } : Jvm.MethodName) prog_12_method_63_code (5 : Nat) (Option.some Jvm.ClassFile.FieldType.int) ∈ WSa := wsa_i 1137 _ (by decide +kernel) (by decide +kernel)
theorem kw1138 : Jvm.Cond.methodLink "WindCardShipsModel" (229 : Nat) ({ cls := "WindCardShipsModel", name := "pathTo", desc := "(III)I" } : Jvm.MethodName) ∈ WSa := wsa_i 1138 _ (by decide +kernel) (by decide +kernel)
theorem kw1140 : Jvm.Cond.instanceMethod ({ cls := "WindCardShipsModel", name := "pathTo", desc := "(III)I" } : Jvm.MethodName) ∈ WSa := wsa_i 1140 _ (by decide +kernel) (by decide +kernel)
theorem kw1141 : Jvm.Cond.code ({ cls := "WindCardShipsModel", name := "pathTo", desc := "(III)I" } : Jvm.MethodName) prog_12_method_62_code (5 : Nat) (Option.some Jvm.ClassFile.FieldType.int) ∈ WSa := wsa_i 1141 _ (by decide +kernel) (by decide +kernel)
theorem kw1142 : Jvm.Cond.methodLink "WindCardShipsModel" (226 : Nat) ({ cls := "WindCardShipsModel", name := "pathBehind", desc := "(I)I" } : Jvm.MethodName) ∈ WSa := wsa_i 1142 _ (by decide +kernel) (by decide +kernel)
theorem kw1143 : Jvm.Cond.static ({ cls := "WindCardShipsModel", name := "pathBehind", desc := "(I)I" } : Jvm.MethodName) ∈ WSa := wsa_i 1143 _ (by decide +kernel) (by decide +kernel)
theorem kw1144 : Jvm.Cond.code ({ cls := "WindCardShipsModel", name := "pathBehind", desc := "(I)I" } : Jvm.MethodName) prog_12_method_61_code (4 : Nat) (Option.some Jvm.ClassFile.FieldType.int) ∈ WSa := wsa_i 1144 _ (by decide +kernel) (by decide +kernel)
theorem kw1145 : Jvm.Cond.methodLink "WindCardShipsLaw" (113 : Nat) ({ cls := "WindCardShipsModel", name := "reach", desc := "(I)I" } : Jvm.MethodName) ∈ WSa := wsa_i 1145 _ (by decide +kernel) (by decide +kernel)
theorem kw1146 : Jvm.Cond.instanceMethod ({ cls := "WindCardShipsModel", name := "reach", desc := "(I)I" } : Jvm.MethodName) ∈ WSa := wsa_i 1146 _ (by decide +kernel) (by decide +kernel)
theorem kw1147 : Jvm.Cond.selects "WindCardShipsModel" ({ cls := "WindCardShipsModel", name := "reach", desc := "(I)I" } : Jvm.MethodName) ({ cls := "WindCardShipsModel", name := "reach", desc := "(I)I" } : Jvm.MethodName) ∈ WSa := wsa_i 1147 _ (by decide +kernel) (by decide +kernel)
theorem kw1148 : Jvm.Cond.code ({ cls := "WindCardShipsModel", name := "reach", desc := "(I)I" } : Jvm.MethodName) prog_12_method_64_code (5 : Nat) (Option.some Jvm.ClassFile.FieldType.int) ∈ WSa := wsa_i 1148 _ (by decide +kernel) (by decide +kernel)
theorem kw1149 : Jvm.Cond.methodLink "WindCardShipsLaw" (117 : Nat) ({ cls := "WindCardShipsModel", name := "windBy", desc := "(II)I" } : Jvm.MethodName) ∈ WSa := wsa_i 1149 _ (by decide +kernel) (by decide +kernel)
theorem kw1150 : Jvm.Cond.instanceMethod ({ cls := "WindCardShipsModel", name := "windBy", desc := "(II)I" } : Jvm.MethodName) ∈ WSa := wsa_i 1150 _ (by decide +kernel) (by decide +kernel)
theorem kw1151 : Jvm.Cond.selects "WindCardShipsModel" ({ cls := "WindCardShipsModel", name := "windBy", desc := "(II)I" } : Jvm.MethodName) ({ cls := "WindCardShipsModel", name := "windBy", desc := "(II)I" } : Jvm.MethodName) ∈ WSa := wsa_i 1151 _ (by decide +kernel) (by decide +kernel)
theorem kw1152 : Jvm.Cond.code ({ cls := "WindCardShipsModel", name := "windBy", desc := "(II)I" } : Jvm.MethodName) prog_12_method_65_code (3 : Nat) (Option.some Jvm.ClassFile.FieldType.int) ∈ WSa := wsa_i 1152 _ (by decide +kernel) (by decide +kernel)
theorem kw1153 : Jvm.Cond.methodLink "WindCardShipsLaw" (121 : Nat) ({ cls := "WindCardShipsModel", name := "bestCard", desc := "(III)I" } : Jvm.MethodName) ∈ WSa := wsa_i 1153 _ (by decide +kernel) (by decide +kernel)
theorem kw1154 : Jvm.Cond.instanceMethod ({ cls := "WindCardShipsModel", name := "bestCard", desc := "(III)I" } : Jvm.MethodName) ∈ WSa := wsa_i 1154 _ (by decide +kernel) (by decide +kernel)
theorem kw1155 : Jvm.Cond.selects "WindCardShipsModel" ({ cls := "WindCardShipsModel", name := "bestCard", desc := "(III)I" } : Jvm.MethodName) ({ cls := "WindCardShipsModel", name := "bestCard", desc := "(III)I" } : Jvm.MethodName) ∈ WSa := wsa_i 1155 _ (by decide +kernel) (by decide +kernel)
theorem kw1156 : Jvm.Cond.code ({ cls := "WindCardShipsModel", name := "bestCard", desc := "(III)I" } : Jvm.MethodName) prog_12_method_67_code (8 : Nat) (Option.some Jvm.ClassFile.FieldType.int) ∈ WSa := wsa_i 1156 _ (by decide +kernel) (by decide +kernel)
theorem kw1157 : Jvm.Cond.methodLink "WindCardShipsModel" (235 : Nat) ({ cls := "WindCardShipsModel", name := "cardsFor", desc := "(III)I" } : Jvm.MethodName) ∈ WSa := wsa_i 1157 _ (by decide +kernel) (by decide +kernel)
theorem kw1159 : Jvm.Cond.instanceMethod ({ cls := "WindCardShipsModel", name := "cardsFor", desc := "(III)I" } : Jvm.MethodName) ∈ WSa := wsa_i 1159 _ (by decide +kernel) (by decide +kernel)
theorem kw1160 : Jvm.Cond.code ({ cls := "WindCardShipsModel", name := "cardsFor", desc := "(III)I" } : Jvm.MethodName) prog_12_method_66_code (8 : Nat) (Option.some Jvm.ClassFile.FieldType.int) ∈ WSa := wsa_i 1160 _ (by decide +kernel) (by decide +kernel)
theorem kw1161 : Jvm.Cond.methodLink "WindCardShipsModel" (232 : Nat) ({ cls := "WindCardShipsModel", name := "windBy", desc := "(II)I" } : Jvm.MethodName) ∈ WSa := wsa_i 1161 _ (by decide +kernel) (by decide +kernel)
theorem kw1162 : Jvm.Cond.methodLink "WindCardShipsLaw" (125 : Nat) ({ cls := "WindCardShipsModel", name := "threats", desc := "(I)I" } : Jvm.MethodName) ∈ WSa := wsa_i 1162 _ (by decide +kernel) (by decide +kernel)
theorem kw1163 : Jvm.Cond.instanceMethod ({ cls := "WindCardShipsModel", name := "threats", desc := "(I)I" } : Jvm.MethodName) ∈ WSa := wsa_i 1163 _ (by decide +kernel) (by decide +kernel)
theorem kw1164 : Jvm.Cond.selects "WindCardShipsModel" ({ cls := "WindCardShipsModel", name := "threats", desc := "(I)I" } : Jvm.MethodName) ({ cls := "WindCardShipsModel", name := "threats", desc := "(I)I" } : Jvm.MethodName) ∈ WSa := wsa_i 1164 _ (by decide +kernel) (by decide +kernel)
theorem kw1165 : Jvm.Cond.code ({ cls := "WindCardShipsModel", name := "threats", desc := "(I)I" } : Jvm.MethodName) prog_12_method_68_code (5 : Nat) (Option.some Jvm.ClassFile.FieldType.int) ∈ WSa := wsa_i 1165 _ (by decide +kernel) (by decide +kernel)
theorem kw1166 : Jvm.Cond.methodLink "WindCardShipsLaw" (129 : Nat) ({ cls := "WindCardShipsModel", name := "strength", desc := "(I)I" } : Jvm.MethodName) ∈ WSa := wsa_i 1166 _ (by decide +kernel) (by decide +kernel)
theorem kw1167 : Jvm.Cond.instanceMethod ({ cls := "WindCardShipsModel", name := "strength", desc := "(I)I" } : Jvm.MethodName) ∈ WSa := wsa_i 1167 _ (by decide +kernel) (by decide +kernel)
theorem kw1168 : Jvm.Cond.selects "WindCardShipsModel" ({ cls := "WindCardShipsModel", name := "strength", desc := "(I)I" } : Jvm.MethodName) ({ cls := "WindCardShipsModel", name := "strength", desc := "(I)I" } : Jvm.MethodName) ∈ WSa := wsa_i 1168 _ (by decide +kernel) (by decide +kernel)
theorem kw1169 : Jvm.Cond.code ({ cls := "WindCardShipsModel", name := "strength", desc := "(I)I" } : Jvm.MethodName) prog_12_method_69_code (5 : Nat) (Option.some Jvm.ClassFile.FieldType.int) ∈ WSa := wsa_i 1169 _ (by decide +kernel) (by decide +kernel)
end
section
/-! RUN: a walk's judgement over an abstract heap (address -> content), beside the machine's own W: locals as a list by their places, one heap relation for all methods. -/
abbrev AE : Type := (Nat × vp_A) ⊕ (Nat × List Value)
abbrev AH : Type := Nat × (Nat → Option AE)
def toE (cA : Nat → ClassId) : AE → va_E
  | .inl q => .inl (cA q.1, q.2)
  | .inr o => .inr o
def hput (h : AH) (a : Nat) (e : AE) : AH := (h.1, fun q => if q = a then some e else h.2 q)
def hnew (h : AH) (e : AE) : AH := (h.1 + 1, fun q => if q = h.1 then some e else h.2 q)
theorem hput_1 (h : AH) (a : Nat) (e : AE) : (hput h a e).1 = h.1 := rfl
theorem hnew_1 (h : AH) (e : AE) : (hnew h e).1 = h.1 + 1 := rfl
theorem hput_at (h : AH) (a : Nat) (e : AE) : (hput h a e).2 a = some e := by simp [hput]
theorem hput_ne (h : AH) {a b : Nat} (e : AE) (n : b ≠ a) : (hput h a e).2 b = h.2 b := by simp [hput, n]
theorem hnew_at (h : AH) (e : AE) : (hnew h e).2 h.1 = some e := by simp [hnew]
theorem hnew_ne (h : AH) {b : Nat} (e : AE) (n : b ≠ h.1) : (hnew h e).2 b = h.2 b := by simp [hnew, n]
def atys (cA : Nat → ClassId) : List (ClassId × FieldType) := [(cA 0, .int), (cA 1, .boolean), (cA 2, .object RX7), (cA 3, .object RX8)]
def Nst (U : State) : Prop := va_Nw (.methodLinkNest RX9 9 yX8_init RX9) U ∧ va_Nw (.methodLinkNest RX1 17 yX0_init RX9) U ∧ va_Nw (.methodLinkNest RX3 17 yX8_init RX9) U ∧ va_Nw (.methodLinkNest RX9 25 yX4_init RX9) U ∧ va_Nw (.methodLinkNest RX9 32 yX6_init RX9) U ∧ va_AO RX7 U ∧ va_AO RX8 U
theorem Nst.warm {s U : State} (hW : s.WarmedH U.vm) (h : Nst s) : Nst U :=
  ⟨h.1.warmM hW, h.2.1.warmM hW, h.2.2.1.warmM hW, h.2.2.2.1.warmM hW, h.2.2.2.2.1.warmM hW, h.2.2.2.2.2.1.moved hW.alike, h.2.2.2.2.2.2.moved hW.alike⟩
theorem Nst.same {s U : State} (e : s.vm = U.vm) (h : Nst s) : Nst U :=
  ⟨h.1.same rfl e, h.2.1.same rfl e, h.2.2.1.same rfl e, h.2.2.2.1.same rfl e, h.2.2.2.2.1.same rfl e, h.2.2.2.2.2.1.moved (e ▸ Vm.Alike.refl s.vm), h.2.2.2.2.2.2.moved (e ▸ Vm.Alike.refl s.vm)⟩
def KK (D : va_G) (cA : Nat → ClassId) (U : State) : Prop := va_K D vwCl (atys cA) U ∧ Nst U
theorem KK.warm {D : va_G} {cA : Nat → ClassId} {s U : State} (hW : s.WarmedH U.vm) (h : KK D cA s) : KK D cA U := ⟨h.1.moved hW.alike, h.2.warm hW⟩
theorem KK.same {D : va_G} {cA : Nat → ClassId} {s U : State} (e : s.vm = U.vm) (h : KK D cA s) : KK D cA U := ⟨h.1.moved (e ▸ Vm.Alike.refl s.vm), h.2.same e⟩
def Rh (D : va_G) (cA : Nat → ClassId) (N0 : Nat) (h : AH) (H : Heap) : Prop := H.size = h.1 ∧ ∀ (a : Nat) (e : AE), h.2 a = some e → N0 ≤ a ∧ va_at D vwCl (a, toE cA e) H
theorem Rh.put {D : va_G} {cA : Nat → ClassId} {N0 : Nat} {h : AH} {H H1 : Heap} {a : Nat} {e : AE} (hR : Rh D cA N0 h H) (ha : N0 ≤ a) (he : va_at D vwCl (a, toE cA e) H1) (z : H1.size = H.size) (oq : ∀ q : Nat, q ≠ a → H1[q]? = H[q]?) : Rh D cA N0 (hput h a e) H1 := by
  refine ⟨z.trans hR.1, fun b e' hb => ?_⟩
  by_cases hab : b = a
  · subst hab
    rw [hput_at] at hb
    cases hb
    exact ⟨ha, he⟩
  · rw [hput_ne _ _ hab] at hb
    exact ⟨(hR.2 b e' hb).1, (hR.2 b e' hb).2.kept (oq b hab)⟩
theorem Rh.new {D : va_G} {cA : Nat → ClassId} {N0 : Nat} {h : AH} {H H1 : Heap} {e : AE} (hR : Rh D cA N0 h H) (hN : N0 ≤ H.size) (he : va_at D vwCl (H.size, toE cA e) H1) (z : H1.size = H.size + 1) (oq : ∀ q : Nat, q < H.size → H1[q]? = H[q]?) : Rh D cA N0 (hnew h e) H1 := by
  refine ⟨by rw [z, hR.1]; rfl, fun b e' hb => ?_⟩
  by_cases hab : b = h.1
  · subst hab
    rw [hnew_at] at hb
    cases hb
    rw [← hR.1]
    exact ⟨hN, he⟩
  · rw [hnew_ne _ _ hab] at hb
    exact ⟨(hR.2 b e' hb).1, (hR.2 b e' hb).2.kept (oq b (hR.2 b e' hb).2.lt)⟩
/-- the locals by their places -/
def enc : Nat → List (Option Value) → List (Nat × Value)
  | _, [] => []
  | i, none :: r => enc (i + 1) r
  | i, some v :: r => (i, v) :: enc (i + 1) r
theorem enc_mem : ∀ (L : List (Option Value)) (i j : Nat) (w : Value), (j, w) ∈ enc i L ↔ i ≤ j ∧ L[j - i]? = some (some w)
  | [], i, j, w => by simp [enc]
  | none :: r, i, j, w => by
    simp only [enc]
    rw [enc_mem r (i + 1) j w]
    constructor
    · rintro ⟨h1, h2⟩
      refine ⟨by omega, ?_⟩
      rw [show j - i = (j - (i + 1)) + 1 by omega, List.getElem?_cons_succ]
      exact h2
    · rintro ⟨h1, h2⟩
      have hne : j ≠ i := by
        intro e
        subst e
        simp at h2
      refine ⟨by omega, ?_⟩
      rw [show j - i = (j - (i + 1)) + 1 by omega, List.getElem?_cons_succ] at h2
      exact h2
  | some v :: r, i, j, w => by
    simp only [enc, List.mem_cons, Prod.mk.injEq]
    rw [enc_mem r (i + 1) j w]
    constructor
    · rintro (⟨h1, h2⟩ | ⟨h1, h2⟩)
      · subst h1; subst h2
        exact ⟨Nat.le_refl _, by simp⟩
      · refine ⟨by omega, ?_⟩
        rw [show j - i = (j - (i + 1)) + 1 by omega, List.getElem?_cons_succ]
        exact h2
    · rintro ⟨h1, h2⟩
      by_cases hji : j = i
      · subst hji
        rw [Nat.sub_self, List.getElem?_cons_zero] at h2
        simp only [Option.some.injEq] at h2
        exact Or.inl ⟨rfl, h2.symm⟩
      · right
        refine ⟨by omega, ?_⟩
        rw [show j - i = (j - (i + 1)) + 1 by omega, List.getElem?_cons_succ] at h2
        exact h2
def LH (ls : Array Slot) (nL : Nat) (L : List (Option Value)) : Prop := lv_has ls nL (enc 0 L)
def c1 : List (Option Value) → Bool
  | [] => true
  | none :: r => c1 r
  | some v :: r => v.category == 1 && c1 r
theorem c1_mem : ∀ (L : List (Option Value)), c1 L = true → ∀ w : Value, some w ∈ L → w.category = 1
  | [], _, w, h => by simp at h
  | none :: r, hc, w, h => by
    rcases List.mem_cons.mp h with h1 | h1
    · cases h1
    · exact c1_mem r hc w h1
  | some v :: r, hc, w, h => by
    simp only [c1, Bool.and_eq_true, beq_iff_eq] at hc
    rcases List.mem_cons.mp h with h1 | h1
    · cases h1
      exact hc.1
    · exact c1_mem r hc.2 w h1
theorem LH.at {ls : Array Slot} {nL : Nat} {L : List (Option Value)} (h : LH ls nL L) {i : Nat} {v : Value} (hi : L[i]? = some (some v)) : ls[i]? = some (.val v) :=
  h.2.2 (i, v) ((enc_mem L 0 i v).mpr ⟨Nat.zero_le _, hi⟩)
theorem LH.set {ls' : Array Slot} {nL i : Nat} {L : List (Option Value)} {v : Value} (hc : c1 L = true) (hi : i < L.length) (h' : lv_has ls' nL ((i, v) :: (enc 0 L).filter (fun q => !(q.1 == i) && !(q.1 + 1 == i && q.2.category == 2)))) : LH ls' nL (L.set i (some v)) := by
  refine ⟨h'.1, h'.2.1, fun q hq => h'.2.2 q ?_⟩
  obtain ⟨j, w⟩ := q
  have hj := ((enc_mem _ 0 j w).mp hq).2
  rw [Nat.sub_zero] at hj
  by_cases hji : j = i
  · subst hji
    rw [List.getElem?_set_self hi] at hj
    simp only [Option.some.injEq] at hj
    rw [← hj]
    exact List.mem_cons_self
  · rw [List.getElem?_set_ne (Ne.symm hji)] at hj
    refine List.mem_cons_of_mem _ (List.mem_filter.mpr ⟨(enc_mem L 0 j w).mpr ⟨Nat.zero_le _, hj⟩, ?_⟩)
    have h1 := c1_mem L hc w (List.mem_of_getElem? hj)
    simp [hji, h1]
/-- how a method ends: an answer and a heap -/
def Qg (D : va_G) (cA : Nat → ClassId) (N0 : Nat) (post : Option Value → AH → Prop) : Array Value → State → Outcome → State → Prop := fun _ st oc t => (∃ (r : Option Value) (h' : AH), oc = .returned r ∧ post r h' ∧ Rh D cA N0 h' t.heap) ∧ va_F (fun q => N0 ≤ q) st t

/-- what stands all along a method's walk -/
def Cx (D : va_G) (cA : Nat → ClassId) (N0 : Nat) (own : String) (cc : ByteArray) (nL : Nat) (ret : Option FieldType) (nm : String) (X : State → Prop) (p : Program) (s : State) (m : MethodId) (args : Array Value) (meth : Method) (c : Code) : Prop :=
  p.tables.exec = Jvm.exec ∧ c.code = cc ∧ c.maxLocals = nL ∧ meth.sig.returnType = ret ∧ meth.locks = false ∧ s.vm.findClass own = some m.cls ∧ meth.name = nm ∧ (∀ w ∈ WSa, w.before args s = true) ∧ KK D cA s ∧ N0 ≤ s.heap.size ∧ X s
def Run (l : Launch) (D : va_G) (cA : Nat → ClassId) (N0 : Nat) (own : String) (cc : ByteArray) (nL : Nat) (ret : Option FieldType) (nm : String) (R : Room) (X : State → Prop) (F : List Frame → Array Value → State → State → Prop) (h : AH) (k n pc : Nat) (L : List (Option Value)) (st : List Value) : Prop :=
  ∀ (p : Program) (e : Env) (s : State) (m : MethodId) (args : Array Value) (below : List Frame) (meth : Method) (c : Code) (H : Heap) (locs : List Loc) (ls : Array Slot),
    Cx D cA N0 own cc nL ret nm X p s m args meth c → Rh D cA N0 h H → va_S (fun q => N0 ≤ q) s.heap H locs → LH ls nL L → W p l e R s m args below meth c H locs k n (F below args s) (F0 m pc ls st)
/-- a method: its name, code, number of locals, what it returns -/
abbrev MI : Type := MethodName × ByteArray × Nat × Option FieldType
abbrev rmD (d mc ms : Nat) : Room := { frames := d, cells := mc, slots := ms, locals := 36 * d }
def Spec (l : Launch) (D : va_G) (cA : Nat → ClassId) (N0 : Nat) (M : MI) (d mc ms : Nat) (args : List Value) (h : AH) (post : Option Value → AH → Prop) : Prop :=
  Met l M.1 (Cond.code M.1 M.2.1 M.2.2.1 M.2.2.2 :: WSa) (rmD d mc ms) (va_Pc args (fun U => Rh D cA N0 h U.heap ∧ KK D cA U ∧ N0 ≤ U.heap.size)) (Qg D cA N0 post) mc ms (fun q => N0 ≤ q)
abbrev FM (D : va_G) (cA : Nat → ClassId) (N0 : Nat) (post : Option Value → AH → Prop) (mc ms : Nat) : List Frame → Array Value → State → State → Prop := fun below args s => MQ below (Qg D cA N0 post) args s mc ms (fun q => N0 ≤ q)
abbrev RunM (l : Launch) (D : va_G) (cA : Nat → ClassId) (N0 : Nat) (M : MI) (d mc ms : Nat) (post : Option Value → AH → Prop) : AH → Nat → Nat → Nat → List (Option Value) → List Value → Prop :=
  Run l D cA N0 M.1.cls M.2.1 M.2.2.1 M.2.2.2 M.1.name (rmD d mc ms) (fun _ => True) (FM D cA N0 post mc ms)
theorem Spec.of {l : Launch} {D : va_G} {cA : Nat → ClassId} {N0 : Nat} {M : MI} {d mc ms : Nat} {args : List Value} {h : AH} {post : Option Value → AH → Prop} {L : List (Option Value)} (hy : plainName M.1.cls = true) (hL : enc 0 L = lv_args 0 args) (hlen : (lg_sl args).length ≤ M.2.2.1)
    (k : RunM l D cA N0 M d mc ms post h 0 0 0 L []) : Spec l D cA N0 M d mc ms args h post := by
  refine Met.ofW (cc := M.2.1) (maxL := M.2.2.1) (ret := M.2.2.2) hy rfl ?_
  intro p e s m a below meth c s₁ B hml hv
  obtain ⟨rfl, hR, hK, hN⟩ := hv
  have hts := atoms_spec (ws := Cond.code M.1 M.2.1 M.2.2.1 M.2.2.2 :: WSa) B.pre
  have hown : s.vm.findClass M.1.cls = some m.cls := findClass_of_methodNamed B.named
  have hl := lv_entry args (n := M.2.2.1) hlen
  rw [lg_entry_eq]
  exact k p e s m args.toArray below meth c s.heap [] _ ⟨B.exec, B.bytes, hml, B.returns, B.notSynchronized, hown, (name_of_methodNamed B.named B.method).1, fun w hw => hts w (List.mem_cons_of_mem _ hw), hK, hN, trivial⟩ hR va_S.rf (by rw [LH, hL]; exact hl)
section RR
variable {l : Launch} {D : va_G} {cA : Nat → ClassId} {N0 : Nat} {own : String} {cc : ByteArray} {nL : Nat} {ret : Option FieldType} {nm : String} {R : Room} {X : State → Prop} {F : List Frame → Array Value → State → State → Prop} {h : AH} {k n pc : Nat} {L : List (Option Value)} {st : List Value}
theorem R_iconst {z : Int} {v : Int32} (hd : decode cc pc = .ok (.iconst z, 1)) (hv : Int32.ofInt z = v) (kk : Run l D cA N0 own cc nL ret nm R X F h k n (pc + 1) L (.int v :: st)) : Run l D cA N0 own cc nL ret nm R X F h k n (pc) L (st) := by
  intro p e s m args below meth c H locs ls Cc hR hS hL
  obtain ⟨hx, hb, hml, hrt, hlk, hown, hnm, hts, hK, hN, hX⟩ := id Cc
  exact lv_iconst hx hb hd hv (kk p e s m args below meth c H locs ls Cc hR hS hL)
theorem R_bipush {z : Int} {v : Int32} (hd : decode cc pc = .ok (.bipush z, 2)) (hv : (Int8.ofInt z).toInt32 = v) (kk : Run l D cA N0 own cc nL ret nm R X F h k n (pc + 2) L (.int v :: st)) : Run l D cA N0 own cc nL ret nm R X F h k n (pc) L (st) := by
  intro p e s m args below meth c H locs ls Cc hR hS hL
  obtain ⟨hx, hb, hml, hrt, hlk, hown, hnm, hts, hK, hN, hX⟩ := id Cc
  exact lv_bipush hx hb hd hv (kk p e s m args below meth c H locs ls Cc hR hS hL)
theorem R_sipush {z : Int} {v : Int32} (hd : decode cc pc = .ok (.sipush z, 3)) (hv : (Int16.ofInt z).toInt32 = v) (kk : Run l D cA N0 own cc nL ret nm R X F h k n (pc + 3) L (.int v :: st)) : Run l D cA N0 own cc nL ret nm R X F h k n (pc) L (st) := by
  intro p e s m args below meth c H locs ls Cc hR hS hL
  obtain ⟨hx, hb, hml, hrt, hlk, hown, hnm, hts, hK, hN, hX⟩ := id Cc
  exact lv_sipush hx hb hd hv (kk p e s m args below meth c H locs ls Cc hR hS hL)
theorem R_lconst {z : Fin 2} {v : Int64} (hd : decode cc pc = .ok (.lconst z, 1)) (hv : Int64.ofNat (z : Nat) = v) (kk : Run l D cA N0 own cc nL ret nm R X F h k n (pc + 1) L (.long v :: st)) : Run l D cA N0 own cc nL ret nm R X F h k n (pc) L (st) := by
  intro p e s m args below meth c H locs ls Cc hR hS hL
  obtain ⟨hx, hb, hml, hrt, hlk, hown, hnm, hts, hK, hN, hX⟩ := id Cc
  exact lv_lconst hx hb hd hv (kk p e s m args below meth c H locs ls Cc hR hS hL)
theorem R_ldc {i : Nat} {v : Int32} (hd : decode cc pc = .ok (.ldc i, 2)) (hw : Cond.constant own i v ∈ WSa) (kk : Run l D cA N0 own cc nL ret nm R X F h k n (pc + 2) L (.int v :: st)) : Run l D cA N0 own cc nL ret nm R X F h k n (pc) L (st) := by
  intro p e s m args below meth c H locs ls Cc hR hS hL
  obtain ⟨hx, hb, hml, hrt, hlk, hown, hnm, hts, hK, hN, hX⟩ := id Cc
  exact lv_ldc hx hb hown (hts _ hw) hd (kk p e s m args below meth c H locs ls Cc hR hS hL)
theorem R_ldcw {i : Nat} {v : Int32} (hd : decode cc pc = .ok (.ldc_w i, 3)) (hw : Cond.constant own i v ∈ WSa) (kk : Run l D cA N0 own cc nL ret nm R X F h k n (pc + 3) L (.int v :: st)) : Run l D cA N0 own cc nL ret nm R X F h k n (pc) L (st) := by
  intro p e s m args below meth c H locs ls Cc hR hS hL
  obtain ⟨hx, hb, hml, hrt, hlk, hown, hnm, hts, hK, hN, hX⟩ := id Cc
  exact lv_ldcw hx hb hown (hts _ hw) hd (kk p e s m args below meth c H locs ls Cc hR hS hL)
theorem R_ldc2 {i : Nat} {v : Int64} (hd : decode cc pc = .ok (.ldc2_w i, 3)) (hw : Cond.constantLong own i v ∈ WSa) (kk : Run l D cA N0 own cc nL ret nm R X F h k n (pc + 3) L (.long v :: st)) : Run l D cA N0 own cc nL ret nm R X F h k n (pc) L (st) := by
  intro p e s m args below meth c H locs ls Cc hR hS hL
  obtain ⟨hx, hb, hml, hrt, hlk, hown, hnm, hts, hK, hN, hX⟩ := id Cc
  exact lv_ldc2 hx hb hown (hts _ hw) hd (kk p e s m args below meth c H locs ls Cc hR hS hL)
theorem R_null (hd : decode cc pc = .ok (.aconst_null, 1)) (kk : Run l D cA N0 own cc nL ret nm R X F h k n (pc + 1) L (.null :: st)) : Run l D cA N0 own cc nL ret nm R X F h k n (pc) L (st) := by
  intro p e s m args below meth c H locs ls Cc hR hS hL
  obtain ⟨hx, hb, hml, hrt, hlk, hown, hnm, hts, hK, hN, hX⟩ := id Cc
  exact lv_null hx hb hd (kk p e s m args below meth c H locs ls Cc hR hS hL)
theorem R_iload_nG {j : Fin 4} {x : Int32} (hd : decode cc pc = .ok (.iload_n j, 1)) (hj : L[(j : Nat)]? = some (some (.int x))) (kk : Run l D cA N0 own cc nL ret nm R X F h k n (pc + 1) L (.int x :: st)) : Run l D cA N0 own cc nL ret nm R X F h k n (pc) L (st) := by
  intro p e s m args below meth c H locs ls Cc hR hS hL
  obtain ⟨hx, hb, hml, hrt, hlk, hown, hnm, hts, hK, hN, hX⟩ := id Cc
  exact lv_iload_n hx hb hd rfl (hL.at hj) (kk p e s m args below meth c H locs ls Cc hR hS hL)
theorem R_iloadG {j : Nat} {x : Int32} (hd : decode cc pc = .ok (.iload j, 2)) (hj : L[j]? = some (some (.int x))) (kk : Run l D cA N0 own cc nL ret nm R X F h k n (pc + 2) L (.int x :: st)) : Run l D cA N0 own cc nL ret nm R X F h k n (pc) L (st) := by
  intro p e s m args below meth c H locs ls Cc hR hS hL
  obtain ⟨hx, hb, hml, hrt, hlk, hown, hnm, hts, hK, hN, hX⟩ := id Cc
  exact lv_iload hx hb hd (hL.at hj) (kk p e s m args below meth c H locs ls Cc hR hS hL)
theorem R_lload_nG {j : Fin 4} {x : Int64} (hd : decode cc pc = .ok (.lload_n j, 1)) (hj : L[(j : Nat)]? = some (some (.long x))) (kk : Run l D cA N0 own cc nL ret nm R X F h k n (pc + 1) L (.long x :: st)) : Run l D cA N0 own cc nL ret nm R X F h k n (pc) L (st) := by
  intro p e s m args below meth c H locs ls Cc hR hS hL
  obtain ⟨hx, hb, hml, hrt, hlk, hown, hnm, hts, hK, hN, hX⟩ := id Cc
  exact lv_lload_n hx hb hd rfl (hL.at hj) (kk p e s m args below meth c H locs ls Cc hR hS hL)
theorem R_lloadG {j : Nat} {x : Int64} (hd : decode cc pc = .ok (.lload j, 2)) (hj : L[j]? = some (some (.long x))) (kk : Run l D cA N0 own cc nL ret nm R X F h k n (pc + 2) L (.long x :: st)) : Run l D cA N0 own cc nL ret nm R X F h k n (pc) L (st) := by
  intro p e s m args below meth c H locs ls Cc hR hS hL
  obtain ⟨hx, hb, hml, hrt, hlk, hown, hnm, hts, hK, hN, hX⟩ := id Cc
  exact lv_lload hx hb hd (hL.at hj) (kk p e s m args below meth c H locs ls Cc hR hS hL)
theorem R_aload_nG {j : Fin 4} {x : Nat} (hd : decode cc pc = .ok (.aload_n j, 1)) (hj : L[(j : Nat)]? = some (some (.ref x))) (kk : Run l D cA N0 own cc nL ret nm R X F h k n (pc + 1) L (.ref x :: st)) : Run l D cA N0 own cc nL ret nm R X F h k n (pc) L (st) := by
  intro p e s m args below meth c H locs ls Cc hR hS hL
  obtain ⟨hx, hb, hml, hrt, hlk, hown, hnm, hts, hK, hN, hX⟩ := id Cc
  exact lv_aload_n hx hb hd rfl (hL.at hj) (kk p e s m args below meth c H locs ls Cc hR hS hL)
theorem R_aloadG {j : Nat} {x : Nat} (hd : decode cc pc = .ok (.aload j, 2)) (hj : L[j]? = some (some (.ref x))) (kk : Run l D cA N0 own cc nL ret nm R X F h k n (pc + 2) L (.ref x :: st)) : Run l D cA N0 own cc nL ret nm R X F h k n (pc) L (st) := by
  intro p e s m args below meth c H locs ls Cc hR hS hL
  obtain ⟨hx, hb, hml, hrt, hlk, hown, hnm, hts, hK, hN, hX⟩ := id Cc
  exact lv_aload hx hb hd (hL.at hj) (kk p e s m args below meth c H locs ls Cc hR hS hL)
theorem R_aload_nNG {j : Fin 4} (hd : decode cc pc = .ok (.aload_n j, 1)) (hj : L[(j : Nat)]? = some (some .null)) (kk : Run l D cA N0 own cc nL ret nm R X F h k n (pc + 1) L (.null :: st)) : Run l D cA N0 own cc nL ret nm R X F h k n (pc) L (st) := by
  intro p e s m args below meth c H locs ls Cc hR hS hL
  obtain ⟨hx, hb, hml, hrt, hlk, hown, hnm, hts, hK, hN, hX⟩ := id Cc
  exact lv_aload_nN hx hb hd rfl (hL.at hj) (kk p e s m args below meth c H locs ls Cc hR hS hL)
theorem R_aloadNG {j : Nat} (hd : decode cc pc = .ok (.aload j, 2)) (hj : L[j]? = some (some .null)) (kk : Run l D cA N0 own cc nL ret nm R X F h k n (pc + 2) L (.null :: st)) : Run l D cA N0 own cc nL ret nm R X F h k n (pc) L (st) := by
  intro p e s m args below meth c H locs ls Cc hR hS hL
  obtain ⟨hx, hb, hml, hrt, hlk, hown, hnm, hts, hK, hN, hX⟩ := id Cc
  exact lv_aloadN hx hb hd (hL.at hj) (kk p e s m args below meth c H locs ls Cc hR hS hL)
theorem R_istore_nG {j : Fin 4} {x : Int32} (hd : decode cc pc = .ok (.istore_n j, 1)) (hc : c1 L = true) (hi : (j : Nat) < L.length) (hn : (j : Nat) < nL) (kk : Run l D cA N0 own cc nL ret nm R X F h k n (pc + 1) (L.set (j : Nat) (some (.int x))) (st)) : Run l D cA N0 own cc nL ret nm R X F h k n (pc) L (.int x :: st) := by
  intro p e s m args below meth c H locs ls Cc hR hS hL
  obtain ⟨hx, hb, hml, hrt, hlk, hown, hnm, hts, hK, hN, hX⟩ := id Cc
  exact lv_istore_n hx hb hd rfl hL hn rfl (fun ls' h' => kk p e s m args below meth c H locs ls' Cc hR hS (LH.set hc hi h'))
theorem R_istoreG {j : Nat} {x : Int32} (hd : decode cc pc = .ok (.istore j, 2)) (hc : c1 L = true) (hi : (j : Nat) < L.length) (hn : (j : Nat) < nL) (kk : Run l D cA N0 own cc nL ret nm R X F h k n (pc + 2) (L.set (j : Nat) (some (.int x))) (st)) : Run l D cA N0 own cc nL ret nm R X F h k n (pc) L (.int x :: st) := by
  intro p e s m args below meth c H locs ls Cc hR hS hL
  obtain ⟨hx, hb, hml, hrt, hlk, hown, hnm, hts, hK, hN, hX⟩ := id Cc
  exact lv_istore hx hb hd hL hn rfl (fun ls' h' => kk p e s m args below meth c H locs ls' Cc hR hS (LH.set hc hi h'))
theorem R_astore_nG {j : Fin 4} {x : Nat} (hd : decode cc pc = .ok (.astore_n j, 1)) (hc : c1 L = true) (hi : (j : Nat) < L.length) (hn : (j : Nat) < nL) (kk : Run l D cA N0 own cc nL ret nm R X F h k n (pc + 1) (L.set (j : Nat) (some (.ref x))) (st)) : Run l D cA N0 own cc nL ret nm R X F h k n (pc) L (.ref x :: st) := by
  intro p e s m args below meth c H locs ls Cc hR hS hL
  obtain ⟨hx, hb, hml, hrt, hlk, hown, hnm, hts, hK, hN, hX⟩ := id Cc
  exact lv_astore_n hx hb hd rfl hL hn rfl (fun ls' h' => kk p e s m args below meth c H locs ls' Cc hR hS (LH.set hc hi h'))
theorem R_astoreG {j : Nat} {x : Nat} (hd : decode cc pc = .ok (.astore j, 2)) (hc : c1 L = true) (hi : (j : Nat) < L.length) (hn : (j : Nat) < nL) (kk : Run l D cA N0 own cc nL ret nm R X F h k n (pc + 2) (L.set (j : Nat) (some (.ref x))) (st)) : Run l D cA N0 own cc nL ret nm R X F h k n (pc) L (.ref x :: st) := by
  intro p e s m args below meth c H locs ls Cc hR hS hL
  obtain ⟨hx, hb, hml, hrt, hlk, hown, hnm, hts, hK, hN, hX⟩ := id Cc
  exact lv_astore hx hb hd hL hn rfl (fun ls' h' => kk p e s m args below meth c H locs ls' Cc hR hS (LH.set hc hi h'))
theorem R_astoreN_nG {j : Fin 4} (hd : decode cc pc = .ok (.astore_n j, 1)) (hc : c1 L = true) (hi : (j : Nat) < L.length) (hn : (j : Nat) < nL) (kk : Run l D cA N0 own cc nL ret nm R X F h k n (pc + 1) (L.set (j : Nat) (some (.null))) (st)) : Run l D cA N0 own cc nL ret nm R X F h k n (pc) L (.null :: st) := by
  intro p e s m args below meth c H locs ls Cc hR hS hL
  obtain ⟨hx, hb, hml, hrt, hlk, hown, hnm, hts, hK, hN, hX⟩ := id Cc
  exact lv_astore_nN hx hb hd rfl hL hn rfl (fun ls' h' => kk p e s m args below meth c H locs ls' Cc hR hS (LH.set hc hi h'))
theorem R_astoreNG {j : Nat} (hd : decode cc pc = .ok (.astore j, 2)) (hc : c1 L = true) (hi : (j : Nat) < L.length) (hn : (j : Nat) < nL) (kk : Run l D cA N0 own cc nL ret nm R X F h k n (pc + 2) (L.set (j : Nat) (some (.null))) (st)) : Run l D cA N0 own cc nL ret nm R X F h k n (pc) L (.null :: st) := by
  intro p e s m args below meth c H locs ls Cc hR hS hL
  obtain ⟨hx, hb, hml, hrt, hlk, hown, hnm, hts, hK, hN, hX⟩ := id Cc
  exact lv_astoreN hx hb hd hL hn rfl (fun ls' h' => kk p e s m args below meth c H locs ls' Cc hR hS (LH.set hc hi h'))
theorem R_iincG {j : Nat} {z : Int} {x v : Int32} (hd : decode cc pc = .ok (.iinc j z, 3)) (hj : L[j]? = some (some (.int x))) (hv : x + Int32.ofInt z = v) (hc : c1 L = true) (hn : j < nL) (kk : Run l D cA N0 own cc nL ret nm R X F h k n (pc + 3) (L.set j (some (.int v))) (st)) : Run l D cA N0 own cc nL ret nm R X F h k n (pc) L (st) := by
  intro p e s m args below meth c H locs ls Cc hR hS hL
  obtain ⟨hx, hb, hml, hrt, hlk, hown, hnm, hts, hK, hN, hX⟩ := id Cc
  obtain ⟨q, hq⟩ := List.getElem?_of_mem ((enc_mem L 0 j (.int x)).mpr ⟨Nat.zero_le _, hj⟩)
  exact lv_iinc hx hb hd hL hq hv hn rfl (fun ls' h' => kk p e s m args below meth c H locs ls' Cc hR hS (LH.set hc (List.getElem?_eq_some_iff.mp hj).1 h'))
theorem R_iload_n0 {x : Int32} (hd : decode cc pc = .ok (.iload_n 0, 1)) (kk : Run l D cA N0 own cc nL ret nm R X F h k n (pc + 1) (some (.int x) :: L) (.int x :: st)) : Run l D cA N0 own cc nL ret nm R X F h k n (pc) (some (.int x) :: L) (st) := R_iload_nG hd rfl kk
theorem R_iload0 {x : Int32} (hd : decode cc pc = .ok (.iload 0, 2)) (kk : Run l D cA N0 own cc nL ret nm R X F h k n (pc + 2) (some (.int x) :: L) (.int x :: st)) : Run l D cA N0 own cc nL ret nm R X F h k n (pc) (some (.int x) :: L) (st) := R_iloadG hd rfl kk
theorem R_aload_n0 {x : Nat} (hd : decode cc pc = .ok (.aload_n 0, 1)) (kk : Run l D cA N0 own cc nL ret nm R X F h k n (pc + 1) (some (.ref x) :: L) (.ref x :: st)) : Run l D cA N0 own cc nL ret nm R X F h k n (pc) (some (.ref x) :: L) (st) := R_aload_nG hd rfl kk
theorem R_aload0 {x : Nat} (hd : decode cc pc = .ok (.aload 0, 2)) (kk : Run l D cA N0 own cc nL ret nm R X F h k n (pc + 2) (some (.ref x) :: L) (.ref x :: st)) : Run l D cA N0 own cc nL ret nm R X F h k n (pc) (some (.ref x) :: L) (st) := R_aloadG hd rfl kk
theorem R_lload_n0 {x : Int64} (hd : decode cc pc = .ok (.lload_n 0, 1)) (kk : Run l D cA N0 own cc nL ret nm R X F h k n (pc + 1) (some (.long x) :: L) (.long x :: st)) : Run l D cA N0 own cc nL ret nm R X F h k n (pc) (some (.long x) :: L) (st) := R_lload_nG hd rfl kk
theorem R_lload0 {x : Int64} (hd : decode cc pc = .ok (.lload 0, 2)) (kk : Run l D cA N0 own cc nL ret nm R X F h k n (pc + 2) (some (.long x) :: L) (.long x :: st)) : Run l D cA N0 own cc nL ret nm R X F h k n (pc) (some (.long x) :: L) (st) := R_lloadG hd rfl kk
theorem R_aloadN_n0 (hd : decode cc pc = .ok (.aload_n 0, 1)) (kk : Run l D cA N0 own cc nL ret nm R X F h k n (pc + 1) (some .null :: L) (.null :: st)) : Run l D cA N0 own cc nL ret nm R X F h k n (pc) (some .null :: L) (st) := R_aload_nNG hd rfl kk
theorem R_istore_n0 {o : Option Value} {x : Int32} (hd : decode cc pc = .ok (.istore_n 0, 1)) (hc : c1 (o :: L) = true) (hn : 0 < nL) (kk : Run l D cA N0 own cc nL ret nm R X F h k n (pc + 1) (some (.int x) :: L) (st)) : Run l D cA N0 own cc nL ret nm R X F h k n (pc) (o :: L) (.int x :: st) := R_istore_nG hd hc (by simp only [List.length_cons]; show _ < _ + 1; omega) hn kk
theorem R_astore_n0 {o : Option Value} {x : Nat} (hd : decode cc pc = .ok (.astore_n 0, 1)) (hc : c1 (o :: L) = true) (hn : 0 < nL) (kk : Run l D cA N0 own cc nL ret nm R X F h k n (pc + 1) (some (.ref x) :: L) (st)) : Run l D cA N0 own cc nL ret nm R X F h k n (pc) (o :: L) (.ref x :: st) := R_astore_nG hd hc (by simp only [List.length_cons]; show _ < _ + 1; omega) hn kk
theorem R_astoreN_n0 {o : Option Value} (hd : decode cc pc = .ok (.astore_n 0, 1)) (hc : c1 (o :: L) = true) (hn : 0 < nL) (kk : Run l D cA N0 own cc nL ret nm R X F h k n (pc + 1) (some (.null) :: L) (st)) : Run l D cA N0 own cc nL ret nm R X F h k n (pc) (o :: L) (.null :: st) := R_astoreN_nG hd hc (by simp only [List.length_cons]; show _ < _ + 1; omega) hn kk
theorem R_aloadN0 (hd : decode cc pc = .ok (.aload 0, 2)) (kk : Run l D cA N0 own cc nL ret nm R X F h k n (pc + 2) (some .null :: L) (.null :: st)) : Run l D cA N0 own cc nL ret nm R X F h k n (pc) (some .null :: L) (st) := R_aloadNG hd rfl kk
theorem R_istore0 {o : Option Value} {x : Int32} (hd : decode cc pc = .ok (.istore 0, 2)) (hc : c1 (o :: L) = true) (hn : 0 < nL) (kk : Run l D cA N0 own cc nL ret nm R X F h k n (pc + 2) (some (.int x) :: L) (st)) : Run l D cA N0 own cc nL ret nm R X F h k n (pc) (o :: L) (.int x :: st) := R_istoreG hd hc (by simp only [List.length_cons]; show _ < _ + 1; omega) hn kk
theorem R_astore0 {o : Option Value} {x : Nat} (hd : decode cc pc = .ok (.astore 0, 2)) (hc : c1 (o :: L) = true) (hn : 0 < nL) (kk : Run l D cA N0 own cc nL ret nm R X F h k n (pc + 2) (some (.ref x) :: L) (st)) : Run l D cA N0 own cc nL ret nm R X F h k n (pc) (o :: L) (.ref x :: st) := R_astoreG hd hc (by simp only [List.length_cons]; show _ < _ + 1; omega) hn kk
theorem R_astoreN0 {o : Option Value} (hd : decode cc pc = .ok (.astore 0, 2)) (hc : c1 (o :: L) = true) (hn : 0 < nL) (kk : Run l D cA N0 own cc nL ret nm R X F h k n (pc + 2) (some (.null) :: L) (st)) : Run l D cA N0 own cc nL ret nm R X F h k n (pc) (o :: L) (.null :: st) := R_astoreNG hd hc (by simp only [List.length_cons]; show _ < _ + 1; omega) hn kk
theorem R_iinc0 {x : Int32} {z : Int} (hd : decode cc pc = .ok (.iinc 0 z, 3)) (hc : c1 (some (.int x) :: L) = true) (hn : 0 < nL) (kk : Run l D cA N0 own cc nL ret nm R X F h k n (pc + 3) (some (.int (x + Int32.ofInt z)) :: L) (st)) : Run l D cA N0 own cc nL ret nm R X F h k n (pc) (some (.int x) :: L) (st) := R_iincG hd rfl rfl hc hn kk
theorem R_iload_n1 {a0 : Option Value} {x : Int32} (hd : decode cc pc = .ok (.iload_n 1, 1)) (kk : Run l D cA N0 own cc nL ret nm R X F h k n (pc + 1) (a0 :: some (.int x) :: L) (.int x :: st)) : Run l D cA N0 own cc nL ret nm R X F h k n (pc) (a0 :: some (.int x) :: L) (st) := R_iload_nG hd rfl kk
theorem R_iload1 {a0 : Option Value} {x : Int32} (hd : decode cc pc = .ok (.iload 1, 2)) (kk : Run l D cA N0 own cc nL ret nm R X F h k n (pc + 2) (a0 :: some (.int x) :: L) (.int x :: st)) : Run l D cA N0 own cc nL ret nm R X F h k n (pc) (a0 :: some (.int x) :: L) (st) := R_iloadG hd rfl kk
theorem R_aload_n1 {a0 : Option Value} {x : Nat} (hd : decode cc pc = .ok (.aload_n 1, 1)) (kk : Run l D cA N0 own cc nL ret nm R X F h k n (pc + 1) (a0 :: some (.ref x) :: L) (.ref x :: st)) : Run l D cA N0 own cc nL ret nm R X F h k n (pc) (a0 :: some (.ref x) :: L) (st) := R_aload_nG hd rfl kk
theorem R_aload1 {a0 : Option Value} {x : Nat} (hd : decode cc pc = .ok (.aload 1, 2)) (kk : Run l D cA N0 own cc nL ret nm R X F h k n (pc + 2) (a0 :: some (.ref x) :: L) (.ref x :: st)) : Run l D cA N0 own cc nL ret nm R X F h k n (pc) (a0 :: some (.ref x) :: L) (st) := R_aloadG hd rfl kk
theorem R_aloadN_n1 {a0 : Option Value} (hd : decode cc pc = .ok (.aload_n 1, 1)) (kk : Run l D cA N0 own cc nL ret nm R X F h k n (pc + 1) (a0 :: some .null :: L) (.null :: st)) : Run l D cA N0 own cc nL ret nm R X F h k n (pc) (a0 :: some .null :: L) (st) := R_aload_nNG hd rfl kk
theorem R_istore_n1 {a0 : Option Value} {o : Option Value} {x : Int32} (hd : decode cc pc = .ok (.istore_n 1, 1)) (hc : c1 (a0 :: o :: L) = true) (hn : 1 < nL) (kk : Run l D cA N0 own cc nL ret nm R X F h k n (pc + 1) (a0 :: some (.int x) :: L) (st)) : Run l D cA N0 own cc nL ret nm R X F h k n (pc) (a0 :: o :: L) (.int x :: st) := R_istore_nG hd hc (by simp only [List.length_cons]; show _ < _ + 1; omega) hn kk
theorem R_astore_n1 {a0 : Option Value} {o : Option Value} {x : Nat} (hd : decode cc pc = .ok (.astore_n 1, 1)) (hc : c1 (a0 :: o :: L) = true) (hn : 1 < nL) (kk : Run l D cA N0 own cc nL ret nm R X F h k n (pc + 1) (a0 :: some (.ref x) :: L) (st)) : Run l D cA N0 own cc nL ret nm R X F h k n (pc) (a0 :: o :: L) (.ref x :: st) := R_astore_nG hd hc (by simp only [List.length_cons]; show _ < _ + 1; omega) hn kk
theorem R_astoreN_n1 {a0 : Option Value} {o : Option Value} (hd : decode cc pc = .ok (.astore_n 1, 1)) (hc : c1 (a0 :: o :: L) = true) (hn : 1 < nL) (kk : Run l D cA N0 own cc nL ret nm R X F h k n (pc + 1) (a0 :: some (.null) :: L) (st)) : Run l D cA N0 own cc nL ret nm R X F h k n (pc) (a0 :: o :: L) (.null :: st) := R_astoreN_nG hd hc (by simp only [List.length_cons]; show _ < _ + 1; omega) hn kk
theorem R_aloadN1 {a0 : Option Value} (hd : decode cc pc = .ok (.aload 1, 2)) (kk : Run l D cA N0 own cc nL ret nm R X F h k n (pc + 2) (a0 :: some .null :: L) (.null :: st)) : Run l D cA N0 own cc nL ret nm R X F h k n (pc) (a0 :: some .null :: L) (st) := R_aloadNG hd rfl kk
theorem R_istore1 {a0 : Option Value} {o : Option Value} {x : Int32} (hd : decode cc pc = .ok (.istore 1, 2)) (hc : c1 (a0 :: o :: L) = true) (hn : 1 < nL) (kk : Run l D cA N0 own cc nL ret nm R X F h k n (pc + 2) (a0 :: some (.int x) :: L) (st)) : Run l D cA N0 own cc nL ret nm R X F h k n (pc) (a0 :: o :: L) (.int x :: st) := R_istoreG hd hc (by simp only [List.length_cons]; show _ < _ + 1; omega) hn kk
theorem R_astore1 {a0 : Option Value} {o : Option Value} {x : Nat} (hd : decode cc pc = .ok (.astore 1, 2)) (hc : c1 (a0 :: o :: L) = true) (hn : 1 < nL) (kk : Run l D cA N0 own cc nL ret nm R X F h k n (pc + 2) (a0 :: some (.ref x) :: L) (st)) : Run l D cA N0 own cc nL ret nm R X F h k n (pc) (a0 :: o :: L) (.ref x :: st) := R_astoreG hd hc (by simp only [List.length_cons]; show _ < _ + 1; omega) hn kk
theorem R_astoreN1 {a0 : Option Value} {o : Option Value} (hd : decode cc pc = .ok (.astore 1, 2)) (hc : c1 (a0 :: o :: L) = true) (hn : 1 < nL) (kk : Run l D cA N0 own cc nL ret nm R X F h k n (pc + 2) (a0 :: some (.null) :: L) (st)) : Run l D cA N0 own cc nL ret nm R X F h k n (pc) (a0 :: o :: L) (.null :: st) := R_astoreNG hd hc (by simp only [List.length_cons]; show _ < _ + 1; omega) hn kk
theorem R_iinc1 {a0 : Option Value} {x : Int32} {z : Int} (hd : decode cc pc = .ok (.iinc 1 z, 3)) (hc : c1 (a0 :: some (.int x) :: L) = true) (hn : 1 < nL) (kk : Run l D cA N0 own cc nL ret nm R X F h k n (pc + 3) (a0 :: some (.int (x + Int32.ofInt z)) :: L) (st)) : Run l D cA N0 own cc nL ret nm R X F h k n (pc) (a0 :: some (.int x) :: L) (st) := R_iincG hd rfl rfl hc hn kk
theorem R_iload_n2 {a0 a1 : Option Value} {x : Int32} (hd : decode cc pc = .ok (.iload_n 2, 1)) (kk : Run l D cA N0 own cc nL ret nm R X F h k n (pc + 1) (a0 :: a1 :: some (.int x) :: L) (.int x :: st)) : Run l D cA N0 own cc nL ret nm R X F h k n (pc) (a0 :: a1 :: some (.int x) :: L) (st) := R_iload_nG hd rfl kk
theorem R_iload2 {a0 a1 : Option Value} {x : Int32} (hd : decode cc pc = .ok (.iload 2, 2)) (kk : Run l D cA N0 own cc nL ret nm R X F h k n (pc + 2) (a0 :: a1 :: some (.int x) :: L) (.int x :: st)) : Run l D cA N0 own cc nL ret nm R X F h k n (pc) (a0 :: a1 :: some (.int x) :: L) (st) := R_iloadG hd rfl kk
theorem R_aload_n2 {a0 a1 : Option Value} {x : Nat} (hd : decode cc pc = .ok (.aload_n 2, 1)) (kk : Run l D cA N0 own cc nL ret nm R X F h k n (pc + 1) (a0 :: a1 :: some (.ref x) :: L) (.ref x :: st)) : Run l D cA N0 own cc nL ret nm R X F h k n (pc) (a0 :: a1 :: some (.ref x) :: L) (st) := R_aload_nG hd rfl kk
theorem R_aload2 {a0 a1 : Option Value} {x : Nat} (hd : decode cc pc = .ok (.aload 2, 2)) (kk : Run l D cA N0 own cc nL ret nm R X F h k n (pc + 2) (a0 :: a1 :: some (.ref x) :: L) (.ref x :: st)) : Run l D cA N0 own cc nL ret nm R X F h k n (pc) (a0 :: a1 :: some (.ref x) :: L) (st) := R_aloadG hd rfl kk
theorem R_lload_n2 {a0 a1 : Option Value} {x : Int64} (hd : decode cc pc = .ok (.lload_n 2, 1)) (kk : Run l D cA N0 own cc nL ret nm R X F h k n (pc + 1) (a0 :: a1 :: some (.long x) :: L) (.long x :: st)) : Run l D cA N0 own cc nL ret nm R X F h k n (pc) (a0 :: a1 :: some (.long x) :: L) (st) := R_lload_nG hd rfl kk
theorem R_lload2 {a0 a1 : Option Value} {x : Int64} (hd : decode cc pc = .ok (.lload 2, 2)) (kk : Run l D cA N0 own cc nL ret nm R X F h k n (pc + 2) (a0 :: a1 :: some (.long x) :: L) (.long x :: st)) : Run l D cA N0 own cc nL ret nm R X F h k n (pc) (a0 :: a1 :: some (.long x) :: L) (st) := R_lloadG hd rfl kk
theorem R_aloadN_n2 {a0 a1 : Option Value} (hd : decode cc pc = .ok (.aload_n 2, 1)) (kk : Run l D cA N0 own cc nL ret nm R X F h k n (pc + 1) (a0 :: a1 :: some .null :: L) (.null :: st)) : Run l D cA N0 own cc nL ret nm R X F h k n (pc) (a0 :: a1 :: some .null :: L) (st) := R_aload_nNG hd rfl kk
theorem R_istore_n2 {a0 a1 : Option Value} {o : Option Value} {x : Int32} (hd : decode cc pc = .ok (.istore_n 2, 1)) (hc : c1 (a0 :: a1 :: o :: L) = true) (hn : 2 < nL) (kk : Run l D cA N0 own cc nL ret nm R X F h k n (pc + 1) (a0 :: a1 :: some (.int x) :: L) (st)) : Run l D cA N0 own cc nL ret nm R X F h k n (pc) (a0 :: a1 :: o :: L) (.int x :: st) := R_istore_nG hd hc (by simp only [List.length_cons]; show _ < _ + 1; omega) hn kk
theorem R_astore_n2 {a0 a1 : Option Value} {o : Option Value} {x : Nat} (hd : decode cc pc = .ok (.astore_n 2, 1)) (hc : c1 (a0 :: a1 :: o :: L) = true) (hn : 2 < nL) (kk : Run l D cA N0 own cc nL ret nm R X F h k n (pc + 1) (a0 :: a1 :: some (.ref x) :: L) (st)) : Run l D cA N0 own cc nL ret nm R X F h k n (pc) (a0 :: a1 :: o :: L) (.ref x :: st) := R_astore_nG hd hc (by simp only [List.length_cons]; show _ < _ + 1; omega) hn kk
theorem R_astoreN_n2 {a0 a1 : Option Value} {o : Option Value} (hd : decode cc pc = .ok (.astore_n 2, 1)) (hc : c1 (a0 :: a1 :: o :: L) = true) (hn : 2 < nL) (kk : Run l D cA N0 own cc nL ret nm R X F h k n (pc + 1) (a0 :: a1 :: some (.null) :: L) (st)) : Run l D cA N0 own cc nL ret nm R X F h k n (pc) (a0 :: a1 :: o :: L) (.null :: st) := R_astoreN_nG hd hc (by simp only [List.length_cons]; show _ < _ + 1; omega) hn kk
theorem R_aloadN2 {a0 a1 : Option Value} (hd : decode cc pc = .ok (.aload 2, 2)) (kk : Run l D cA N0 own cc nL ret nm R X F h k n (pc + 2) (a0 :: a1 :: some .null :: L) (.null :: st)) : Run l D cA N0 own cc nL ret nm R X F h k n (pc) (a0 :: a1 :: some .null :: L) (st) := R_aloadNG hd rfl kk
theorem R_istore2 {a0 a1 : Option Value} {o : Option Value} {x : Int32} (hd : decode cc pc = .ok (.istore 2, 2)) (hc : c1 (a0 :: a1 :: o :: L) = true) (hn : 2 < nL) (kk : Run l D cA N0 own cc nL ret nm R X F h k n (pc + 2) (a0 :: a1 :: some (.int x) :: L) (st)) : Run l D cA N0 own cc nL ret nm R X F h k n (pc) (a0 :: a1 :: o :: L) (.int x :: st) := R_istoreG hd hc (by simp only [List.length_cons]; show _ < _ + 1; omega) hn kk
theorem R_astore2 {a0 a1 : Option Value} {o : Option Value} {x : Nat} (hd : decode cc pc = .ok (.astore 2, 2)) (hc : c1 (a0 :: a1 :: o :: L) = true) (hn : 2 < nL) (kk : Run l D cA N0 own cc nL ret nm R X F h k n (pc + 2) (a0 :: a1 :: some (.ref x) :: L) (st)) : Run l D cA N0 own cc nL ret nm R X F h k n (pc) (a0 :: a1 :: o :: L) (.ref x :: st) := R_astoreG hd hc (by simp only [List.length_cons]; show _ < _ + 1; omega) hn kk
theorem R_astoreN2 {a0 a1 : Option Value} {o : Option Value} (hd : decode cc pc = .ok (.astore 2, 2)) (hc : c1 (a0 :: a1 :: o :: L) = true) (hn : 2 < nL) (kk : Run l D cA N0 own cc nL ret nm R X F h k n (pc + 2) (a0 :: a1 :: some (.null) :: L) (st)) : Run l D cA N0 own cc nL ret nm R X F h k n (pc) (a0 :: a1 :: o :: L) (.null :: st) := R_astoreNG hd hc (by simp only [List.length_cons]; show _ < _ + 1; omega) hn kk
theorem R_iinc2 {a0 a1 : Option Value} {x : Int32} {z : Int} (hd : decode cc pc = .ok (.iinc 2 z, 3)) (hc : c1 (a0 :: a1 :: some (.int x) :: L) = true) (hn : 2 < nL) (kk : Run l D cA N0 own cc nL ret nm R X F h k n (pc + 3) (a0 :: a1 :: some (.int (x + Int32.ofInt z)) :: L) (st)) : Run l D cA N0 own cc nL ret nm R X F h k n (pc) (a0 :: a1 :: some (.int x) :: L) (st) := R_iincG hd rfl rfl hc hn kk
theorem R_iload_n3 {a0 a1 a2 : Option Value} {x : Int32} (hd : decode cc pc = .ok (.iload_n 3, 1)) (kk : Run l D cA N0 own cc nL ret nm R X F h k n (pc + 1) (a0 :: a1 :: a2 :: some (.int x) :: L) (.int x :: st)) : Run l D cA N0 own cc nL ret nm R X F h k n (pc) (a0 :: a1 :: a2 :: some (.int x) :: L) (st) := R_iload_nG hd rfl kk
theorem R_iload3 {a0 a1 a2 : Option Value} {x : Int32} (hd : decode cc pc = .ok (.iload 3, 2)) (kk : Run l D cA N0 own cc nL ret nm R X F h k n (pc + 2) (a0 :: a1 :: a2 :: some (.int x) :: L) (.int x :: st)) : Run l D cA N0 own cc nL ret nm R X F h k n (pc) (a0 :: a1 :: a2 :: some (.int x) :: L) (st) := R_iloadG hd rfl kk
theorem R_aload_n3 {a0 a1 a2 : Option Value} {x : Nat} (hd : decode cc pc = .ok (.aload_n 3, 1)) (kk : Run l D cA N0 own cc nL ret nm R X F h k n (pc + 1) (a0 :: a1 :: a2 :: some (.ref x) :: L) (.ref x :: st)) : Run l D cA N0 own cc nL ret nm R X F h k n (pc) (a0 :: a1 :: a2 :: some (.ref x) :: L) (st) := R_aload_nG hd rfl kk
theorem R_aload3 {a0 a1 a2 : Option Value} {x : Nat} (hd : decode cc pc = .ok (.aload 3, 2)) (kk : Run l D cA N0 own cc nL ret nm R X F h k n (pc + 2) (a0 :: a1 :: a2 :: some (.ref x) :: L) (.ref x :: st)) : Run l D cA N0 own cc nL ret nm R X F h k n (pc) (a0 :: a1 :: a2 :: some (.ref x) :: L) (st) := R_aloadG hd rfl kk
theorem R_aloadN_n3 {a0 a1 a2 : Option Value} (hd : decode cc pc = .ok (.aload_n 3, 1)) (kk : Run l D cA N0 own cc nL ret nm R X F h k n (pc + 1) (a0 :: a1 :: a2 :: some .null :: L) (.null :: st)) : Run l D cA N0 own cc nL ret nm R X F h k n (pc) (a0 :: a1 :: a2 :: some .null :: L) (st) := R_aload_nNG hd rfl kk
theorem R_istore_n3 {a0 a1 a2 : Option Value} {o : Option Value} {x : Int32} (hd : decode cc pc = .ok (.istore_n 3, 1)) (hc : c1 (a0 :: a1 :: a2 :: o :: L) = true) (hn : 3 < nL) (kk : Run l D cA N0 own cc nL ret nm R X F h k n (pc + 1) (a0 :: a1 :: a2 :: some (.int x) :: L) (st)) : Run l D cA N0 own cc nL ret nm R X F h k n (pc) (a0 :: a1 :: a2 :: o :: L) (.int x :: st) := R_istore_nG hd hc (by simp only [List.length_cons]; show _ < _ + 1; omega) hn kk
theorem R_astore_n3 {a0 a1 a2 : Option Value} {o : Option Value} {x : Nat} (hd : decode cc pc = .ok (.astore_n 3, 1)) (hc : c1 (a0 :: a1 :: a2 :: o :: L) = true) (hn : 3 < nL) (kk : Run l D cA N0 own cc nL ret nm R X F h k n (pc + 1) (a0 :: a1 :: a2 :: some (.ref x) :: L) (st)) : Run l D cA N0 own cc nL ret nm R X F h k n (pc) (a0 :: a1 :: a2 :: o :: L) (.ref x :: st) := R_astore_nG hd hc (by simp only [List.length_cons]; show _ < _ + 1; omega) hn kk
theorem R_astoreN_n3 {a0 a1 a2 : Option Value} {o : Option Value} (hd : decode cc pc = .ok (.astore_n 3, 1)) (hc : c1 (a0 :: a1 :: a2 :: o :: L) = true) (hn : 3 < nL) (kk : Run l D cA N0 own cc nL ret nm R X F h k n (pc + 1) (a0 :: a1 :: a2 :: some (.null) :: L) (st)) : Run l D cA N0 own cc nL ret nm R X F h k n (pc) (a0 :: a1 :: a2 :: o :: L) (.null :: st) := R_astoreN_nG hd hc (by simp only [List.length_cons]; show _ < _ + 1; omega) hn kk
theorem R_aloadN3 {a0 a1 a2 : Option Value} (hd : decode cc pc = .ok (.aload 3, 2)) (kk : Run l D cA N0 own cc nL ret nm R X F h k n (pc + 2) (a0 :: a1 :: a2 :: some .null :: L) (.null :: st)) : Run l D cA N0 own cc nL ret nm R X F h k n (pc) (a0 :: a1 :: a2 :: some .null :: L) (st) := R_aloadNG hd rfl kk
theorem R_istore3 {a0 a1 a2 : Option Value} {o : Option Value} {x : Int32} (hd : decode cc pc = .ok (.istore 3, 2)) (hc : c1 (a0 :: a1 :: a2 :: o :: L) = true) (hn : 3 < nL) (kk : Run l D cA N0 own cc nL ret nm R X F h k n (pc + 2) (a0 :: a1 :: a2 :: some (.int x) :: L) (st)) : Run l D cA N0 own cc nL ret nm R X F h k n (pc) (a0 :: a1 :: a2 :: o :: L) (.int x :: st) := R_istoreG hd hc (by simp only [List.length_cons]; show _ < _ + 1; omega) hn kk
theorem R_astore3 {a0 a1 a2 : Option Value} {o : Option Value} {x : Nat} (hd : decode cc pc = .ok (.astore 3, 2)) (hc : c1 (a0 :: a1 :: a2 :: o :: L) = true) (hn : 3 < nL) (kk : Run l D cA N0 own cc nL ret nm R X F h k n (pc + 2) (a0 :: a1 :: a2 :: some (.ref x) :: L) (st)) : Run l D cA N0 own cc nL ret nm R X F h k n (pc) (a0 :: a1 :: a2 :: o :: L) (.ref x :: st) := R_astoreG hd hc (by simp only [List.length_cons]; show _ < _ + 1; omega) hn kk
theorem R_astoreN3 {a0 a1 a2 : Option Value} {o : Option Value} (hd : decode cc pc = .ok (.astore 3, 2)) (hc : c1 (a0 :: a1 :: a2 :: o :: L) = true) (hn : 3 < nL) (kk : Run l D cA N0 own cc nL ret nm R X F h k n (pc + 2) (a0 :: a1 :: a2 :: some (.null) :: L) (st)) : Run l D cA N0 own cc nL ret nm R X F h k n (pc) (a0 :: a1 :: a2 :: o :: L) (.null :: st) := R_astoreNG hd hc (by simp only [List.length_cons]; show _ < _ + 1; omega) hn kk
theorem R_iinc3 {a0 a1 a2 : Option Value} {x : Int32} {z : Int} (hd : decode cc pc = .ok (.iinc 3 z, 3)) (hc : c1 (a0 :: a1 :: a2 :: some (.int x) :: L) = true) (hn : 3 < nL) (kk : Run l D cA N0 own cc nL ret nm R X F h k n (pc + 3) (a0 :: a1 :: a2 :: some (.int (x + Int32.ofInt z)) :: L) (st)) : Run l D cA N0 own cc nL ret nm R X F h k n (pc) (a0 :: a1 :: a2 :: some (.int x) :: L) (st) := R_iincG hd rfl rfl hc hn kk
theorem R_iload4 {a0 a1 a2 a3 : Option Value} {x : Int32} (hd : decode cc pc = .ok (.iload 4, 2)) (kk : Run l D cA N0 own cc nL ret nm R X F h k n (pc + 2) (a0 :: a1 :: a2 :: a3 :: some (.int x) :: L) (.int x :: st)) : Run l D cA N0 own cc nL ret nm R X F h k n (pc) (a0 :: a1 :: a2 :: a3 :: some (.int x) :: L) (st) := R_iloadG hd rfl kk
theorem R_aload4 {a0 a1 a2 a3 : Option Value} {x : Nat} (hd : decode cc pc = .ok (.aload 4, 2)) (kk : Run l D cA N0 own cc nL ret nm R X F h k n (pc + 2) (a0 :: a1 :: a2 :: a3 :: some (.ref x) :: L) (.ref x :: st)) : Run l D cA N0 own cc nL ret nm R X F h k n (pc) (a0 :: a1 :: a2 :: a3 :: some (.ref x) :: L) (st) := R_aloadG hd rfl kk
theorem R_lload4 {a0 a1 a2 a3 : Option Value} {x : Int64} (hd : decode cc pc = .ok (.lload 4, 2)) (kk : Run l D cA N0 own cc nL ret nm R X F h k n (pc + 2) (a0 :: a1 :: a2 :: a3 :: some (.long x) :: L) (.long x :: st)) : Run l D cA N0 own cc nL ret nm R X F h k n (pc) (a0 :: a1 :: a2 :: a3 :: some (.long x) :: L) (st) := R_lloadG hd rfl kk
theorem R_aloadN4 {a0 a1 a2 a3 : Option Value} (hd : decode cc pc = .ok (.aload 4, 2)) (kk : Run l D cA N0 own cc nL ret nm R X F h k n (pc + 2) (a0 :: a1 :: a2 :: a3 :: some .null :: L) (.null :: st)) : Run l D cA N0 own cc nL ret nm R X F h k n (pc) (a0 :: a1 :: a2 :: a3 :: some .null :: L) (st) := R_aloadNG hd rfl kk
theorem R_istore4 {a0 a1 a2 a3 : Option Value} {o : Option Value} {x : Int32} (hd : decode cc pc = .ok (.istore 4, 2)) (hc : c1 (a0 :: a1 :: a2 :: a3 :: o :: L) = true) (hn : 4 < nL) (kk : Run l D cA N0 own cc nL ret nm R X F h k n (pc + 2) (a0 :: a1 :: a2 :: a3 :: some (.int x) :: L) (st)) : Run l D cA N0 own cc nL ret nm R X F h k n (pc) (a0 :: a1 :: a2 :: a3 :: o :: L) (.int x :: st) := R_istoreG hd hc (by simp only [List.length_cons]; show _ < _ + 1; omega) hn kk
theorem R_astore4 {a0 a1 a2 a3 : Option Value} {o : Option Value} {x : Nat} (hd : decode cc pc = .ok (.astore 4, 2)) (hc : c1 (a0 :: a1 :: a2 :: a3 :: o :: L) = true) (hn : 4 < nL) (kk : Run l D cA N0 own cc nL ret nm R X F h k n (pc + 2) (a0 :: a1 :: a2 :: a3 :: some (.ref x) :: L) (st)) : Run l D cA N0 own cc nL ret nm R X F h k n (pc) (a0 :: a1 :: a2 :: a3 :: o :: L) (.ref x :: st) := R_astoreG hd hc (by simp only [List.length_cons]; show _ < _ + 1; omega) hn kk
theorem R_astoreN4 {a0 a1 a2 a3 : Option Value} {o : Option Value} (hd : decode cc pc = .ok (.astore 4, 2)) (hc : c1 (a0 :: a1 :: a2 :: a3 :: o :: L) = true) (hn : 4 < nL) (kk : Run l D cA N0 own cc nL ret nm R X F h k n (pc + 2) (a0 :: a1 :: a2 :: a3 :: some (.null) :: L) (st)) : Run l D cA N0 own cc nL ret nm R X F h k n (pc) (a0 :: a1 :: a2 :: a3 :: o :: L) (.null :: st) := R_astoreNG hd hc (by simp only [List.length_cons]; show _ < _ + 1; omega) hn kk
theorem R_iinc4 {a0 a1 a2 a3 : Option Value} {x : Int32} {z : Int} (hd : decode cc pc = .ok (.iinc 4 z, 3)) (hc : c1 (a0 :: a1 :: a2 :: a3 :: some (.int x) :: L) = true) (hn : 4 < nL) (kk : Run l D cA N0 own cc nL ret nm R X F h k n (pc + 3) (a0 :: a1 :: a2 :: a3 :: some (.int (x + Int32.ofInt z)) :: L) (st)) : Run l D cA N0 own cc nL ret nm R X F h k n (pc) (a0 :: a1 :: a2 :: a3 :: some (.int x) :: L) (st) := R_iincG hd rfl rfl hc hn kk
theorem R_iload5 {a0 a1 a2 a3 a4 : Option Value} {x : Int32} (hd : decode cc pc = .ok (.iload 5, 2)) (kk : Run l D cA N0 own cc nL ret nm R X F h k n (pc + 2) (a0 :: a1 :: a2 :: a3 :: a4 :: some (.int x) :: L) (.int x :: st)) : Run l D cA N0 own cc nL ret nm R X F h k n (pc) (a0 :: a1 :: a2 :: a3 :: a4 :: some (.int x) :: L) (st) := R_iloadG hd rfl kk
theorem R_aload5 {a0 a1 a2 a3 a4 : Option Value} {x : Nat} (hd : decode cc pc = .ok (.aload 5, 2)) (kk : Run l D cA N0 own cc nL ret nm R X F h k n (pc + 2) (a0 :: a1 :: a2 :: a3 :: a4 :: some (.ref x) :: L) (.ref x :: st)) : Run l D cA N0 own cc nL ret nm R X F h k n (pc) (a0 :: a1 :: a2 :: a3 :: a4 :: some (.ref x) :: L) (st) := R_aloadG hd rfl kk
theorem R_aloadN5 {a0 a1 a2 a3 a4 : Option Value} (hd : decode cc pc = .ok (.aload 5, 2)) (kk : Run l D cA N0 own cc nL ret nm R X F h k n (pc + 2) (a0 :: a1 :: a2 :: a3 :: a4 :: some .null :: L) (.null :: st)) : Run l D cA N0 own cc nL ret nm R X F h k n (pc) (a0 :: a1 :: a2 :: a3 :: a4 :: some .null :: L) (st) := R_aloadNG hd rfl kk
theorem R_istore5 {a0 a1 a2 a3 a4 : Option Value} {o : Option Value} {x : Int32} (hd : decode cc pc = .ok (.istore 5, 2)) (hc : c1 (a0 :: a1 :: a2 :: a3 :: a4 :: o :: L) = true) (hn : 5 < nL) (kk : Run l D cA N0 own cc nL ret nm R X F h k n (pc + 2) (a0 :: a1 :: a2 :: a3 :: a4 :: some (.int x) :: L) (st)) : Run l D cA N0 own cc nL ret nm R X F h k n (pc) (a0 :: a1 :: a2 :: a3 :: a4 :: o :: L) (.int x :: st) := R_istoreG hd hc (by simp only [List.length_cons]; show _ < _ + 1; omega) hn kk
theorem R_astore5 {a0 a1 a2 a3 a4 : Option Value} {o : Option Value} {x : Nat} (hd : decode cc pc = .ok (.astore 5, 2)) (hc : c1 (a0 :: a1 :: a2 :: a3 :: a4 :: o :: L) = true) (hn : 5 < nL) (kk : Run l D cA N0 own cc nL ret nm R X F h k n (pc + 2) (a0 :: a1 :: a2 :: a3 :: a4 :: some (.ref x) :: L) (st)) : Run l D cA N0 own cc nL ret nm R X F h k n (pc) (a0 :: a1 :: a2 :: a3 :: a4 :: o :: L) (.ref x :: st) := R_astoreG hd hc (by simp only [List.length_cons]; show _ < _ + 1; omega) hn kk
theorem R_astoreN5 {a0 a1 a2 a3 a4 : Option Value} {o : Option Value} (hd : decode cc pc = .ok (.astore 5, 2)) (hc : c1 (a0 :: a1 :: a2 :: a3 :: a4 :: o :: L) = true) (hn : 5 < nL) (kk : Run l D cA N0 own cc nL ret nm R X F h k n (pc + 2) (a0 :: a1 :: a2 :: a3 :: a4 :: some (.null) :: L) (st)) : Run l D cA N0 own cc nL ret nm R X F h k n (pc) (a0 :: a1 :: a2 :: a3 :: a4 :: o :: L) (.null :: st) := R_astoreNG hd hc (by simp only [List.length_cons]; show _ < _ + 1; omega) hn kk
theorem R_iinc5 {a0 a1 a2 a3 a4 : Option Value} {x : Int32} {z : Int} (hd : decode cc pc = .ok (.iinc 5 z, 3)) (hc : c1 (a0 :: a1 :: a2 :: a3 :: a4 :: some (.int x) :: L) = true) (hn : 5 < nL) (kk : Run l D cA N0 own cc nL ret nm R X F h k n (pc + 3) (a0 :: a1 :: a2 :: a3 :: a4 :: some (.int (x + Int32.ofInt z)) :: L) (st)) : Run l D cA N0 own cc nL ret nm R X F h k n (pc) (a0 :: a1 :: a2 :: a3 :: a4 :: some (.int x) :: L) (st) := R_iincG hd rfl rfl hc hn kk
theorem R_iload6 {a0 a1 a2 a3 a4 a5 : Option Value} {x : Int32} (hd : decode cc pc = .ok (.iload 6, 2)) (kk : Run l D cA N0 own cc nL ret nm R X F h k n (pc + 2) (a0 :: a1 :: a2 :: a3 :: a4 :: a5 :: some (.int x) :: L) (.int x :: st)) : Run l D cA N0 own cc nL ret nm R X F h k n (pc) (a0 :: a1 :: a2 :: a3 :: a4 :: a5 :: some (.int x) :: L) (st) := R_iloadG hd rfl kk
theorem R_aload6 {a0 a1 a2 a3 a4 a5 : Option Value} {x : Nat} (hd : decode cc pc = .ok (.aload 6, 2)) (kk : Run l D cA N0 own cc nL ret nm R X F h k n (pc + 2) (a0 :: a1 :: a2 :: a3 :: a4 :: a5 :: some (.ref x) :: L) (.ref x :: st)) : Run l D cA N0 own cc nL ret nm R X F h k n (pc) (a0 :: a1 :: a2 :: a3 :: a4 :: a5 :: some (.ref x) :: L) (st) := R_aloadG hd rfl kk
theorem R_aloadN6 {a0 a1 a2 a3 a4 a5 : Option Value} (hd : decode cc pc = .ok (.aload 6, 2)) (kk : Run l D cA N0 own cc nL ret nm R X F h k n (pc + 2) (a0 :: a1 :: a2 :: a3 :: a4 :: a5 :: some .null :: L) (.null :: st)) : Run l D cA N0 own cc nL ret nm R X F h k n (pc) (a0 :: a1 :: a2 :: a3 :: a4 :: a5 :: some .null :: L) (st) := R_aloadNG hd rfl kk
theorem R_istore6 {a0 a1 a2 a3 a4 a5 : Option Value} {o : Option Value} {x : Int32} (hd : decode cc pc = .ok (.istore 6, 2)) (hc : c1 (a0 :: a1 :: a2 :: a3 :: a4 :: a5 :: o :: L) = true) (hn : 6 < nL) (kk : Run l D cA N0 own cc nL ret nm R X F h k n (pc + 2) (a0 :: a1 :: a2 :: a3 :: a4 :: a5 :: some (.int x) :: L) (st)) : Run l D cA N0 own cc nL ret nm R X F h k n (pc) (a0 :: a1 :: a2 :: a3 :: a4 :: a5 :: o :: L) (.int x :: st) := R_istoreG hd hc (by simp only [List.length_cons]; show _ < _ + 1; omega) hn kk
theorem R_astore6 {a0 a1 a2 a3 a4 a5 : Option Value} {o : Option Value} {x : Nat} (hd : decode cc pc = .ok (.astore 6, 2)) (hc : c1 (a0 :: a1 :: a2 :: a3 :: a4 :: a5 :: o :: L) = true) (hn : 6 < nL) (kk : Run l D cA N0 own cc nL ret nm R X F h k n (pc + 2) (a0 :: a1 :: a2 :: a3 :: a4 :: a5 :: some (.ref x) :: L) (st)) : Run l D cA N0 own cc nL ret nm R X F h k n (pc) (a0 :: a1 :: a2 :: a3 :: a4 :: a5 :: o :: L) (.ref x :: st) := R_astoreG hd hc (by simp only [List.length_cons]; show _ < _ + 1; omega) hn kk
theorem R_astoreN6 {a0 a1 a2 a3 a4 a5 : Option Value} {o : Option Value} (hd : decode cc pc = .ok (.astore 6, 2)) (hc : c1 (a0 :: a1 :: a2 :: a3 :: a4 :: a5 :: o :: L) = true) (hn : 6 < nL) (kk : Run l D cA N0 own cc nL ret nm R X F h k n (pc + 2) (a0 :: a1 :: a2 :: a3 :: a4 :: a5 :: some (.null) :: L) (st)) : Run l D cA N0 own cc nL ret nm R X F h k n (pc) (a0 :: a1 :: a2 :: a3 :: a4 :: a5 :: o :: L) (.null :: st) := R_astoreNG hd hc (by simp only [List.length_cons]; show _ < _ + 1; omega) hn kk
theorem R_iinc6 {a0 a1 a2 a3 a4 a5 : Option Value} {x : Int32} {z : Int} (hd : decode cc pc = .ok (.iinc 6 z, 3)) (hc : c1 (a0 :: a1 :: a2 :: a3 :: a4 :: a5 :: some (.int x) :: L) = true) (hn : 6 < nL) (kk : Run l D cA N0 own cc nL ret nm R X F h k n (pc + 3) (a0 :: a1 :: a2 :: a3 :: a4 :: a5 :: some (.int (x + Int32.ofInt z)) :: L) (st)) : Run l D cA N0 own cc nL ret nm R X F h k n (pc) (a0 :: a1 :: a2 :: a3 :: a4 :: a5 :: some (.int x) :: L) (st) := R_iincG hd rfl rfl hc hn kk
theorem R_iload7 {a0 a1 a2 a3 a4 a5 a6 : Option Value} {x : Int32} (hd : decode cc pc = .ok (.iload 7, 2)) (kk : Run l D cA N0 own cc nL ret nm R X F h k n (pc + 2) (a0 :: a1 :: a2 :: a3 :: a4 :: a5 :: a6 :: some (.int x) :: L) (.int x :: st)) : Run l D cA N0 own cc nL ret nm R X F h k n (pc) (a0 :: a1 :: a2 :: a3 :: a4 :: a5 :: a6 :: some (.int x) :: L) (st) := R_iloadG hd rfl kk
theorem R_aload7 {a0 a1 a2 a3 a4 a5 a6 : Option Value} {x : Nat} (hd : decode cc pc = .ok (.aload 7, 2)) (kk : Run l D cA N0 own cc nL ret nm R X F h k n (pc + 2) (a0 :: a1 :: a2 :: a3 :: a4 :: a5 :: a6 :: some (.ref x) :: L) (.ref x :: st)) : Run l D cA N0 own cc nL ret nm R X F h k n (pc) (a0 :: a1 :: a2 :: a3 :: a4 :: a5 :: a6 :: some (.ref x) :: L) (st) := R_aloadG hd rfl kk
theorem R_aloadN7 {a0 a1 a2 a3 a4 a5 a6 : Option Value} (hd : decode cc pc = .ok (.aload 7, 2)) (kk : Run l D cA N0 own cc nL ret nm R X F h k n (pc + 2) (a0 :: a1 :: a2 :: a3 :: a4 :: a5 :: a6 :: some .null :: L) (.null :: st)) : Run l D cA N0 own cc nL ret nm R X F h k n (pc) (a0 :: a1 :: a2 :: a3 :: a4 :: a5 :: a6 :: some .null :: L) (st) := R_aloadNG hd rfl kk
theorem R_istore7 {a0 a1 a2 a3 a4 a5 a6 : Option Value} {o : Option Value} {x : Int32} (hd : decode cc pc = .ok (.istore 7, 2)) (hc : c1 (a0 :: a1 :: a2 :: a3 :: a4 :: a5 :: a6 :: o :: L) = true) (hn : 7 < nL) (kk : Run l D cA N0 own cc nL ret nm R X F h k n (pc + 2) (a0 :: a1 :: a2 :: a3 :: a4 :: a5 :: a6 :: some (.int x) :: L) (st)) : Run l D cA N0 own cc nL ret nm R X F h k n (pc) (a0 :: a1 :: a2 :: a3 :: a4 :: a5 :: a6 :: o :: L) (.int x :: st) := R_istoreG hd hc (by simp only [List.length_cons]; show _ < _ + 1; omega) hn kk
theorem R_astore7 {a0 a1 a2 a3 a4 a5 a6 : Option Value} {o : Option Value} {x : Nat} (hd : decode cc pc = .ok (.astore 7, 2)) (hc : c1 (a0 :: a1 :: a2 :: a3 :: a4 :: a5 :: a6 :: o :: L) = true) (hn : 7 < nL) (kk : Run l D cA N0 own cc nL ret nm R X F h k n (pc + 2) (a0 :: a1 :: a2 :: a3 :: a4 :: a5 :: a6 :: some (.ref x) :: L) (st)) : Run l D cA N0 own cc nL ret nm R X F h k n (pc) (a0 :: a1 :: a2 :: a3 :: a4 :: a5 :: a6 :: o :: L) (.ref x :: st) := R_astoreG hd hc (by simp only [List.length_cons]; show _ < _ + 1; omega) hn kk
theorem R_astoreN7 {a0 a1 a2 a3 a4 a5 a6 : Option Value} {o : Option Value} (hd : decode cc pc = .ok (.astore 7, 2)) (hc : c1 (a0 :: a1 :: a2 :: a3 :: a4 :: a5 :: a6 :: o :: L) = true) (hn : 7 < nL) (kk : Run l D cA N0 own cc nL ret nm R X F h k n (pc + 2) (a0 :: a1 :: a2 :: a3 :: a4 :: a5 :: a6 :: some (.null) :: L) (st)) : Run l D cA N0 own cc nL ret nm R X F h k n (pc) (a0 :: a1 :: a2 :: a3 :: a4 :: a5 :: a6 :: o :: L) (.null :: st) := R_astoreNG hd hc (by simp only [List.length_cons]; show _ < _ + 1; omega) hn kk
theorem R_iinc7 {a0 a1 a2 a3 a4 a5 a6 : Option Value} {x : Int32} {z : Int} (hd : decode cc pc = .ok (.iinc 7 z, 3)) (hc : c1 (a0 :: a1 :: a2 :: a3 :: a4 :: a5 :: a6 :: some (.int x) :: L) = true) (hn : 7 < nL) (kk : Run l D cA N0 own cc nL ret nm R X F h k n (pc + 3) (a0 :: a1 :: a2 :: a3 :: a4 :: a5 :: a6 :: some (.int (x + Int32.ofInt z)) :: L) (st)) : Run l D cA N0 own cc nL ret nm R X F h k n (pc) (a0 :: a1 :: a2 :: a3 :: a4 :: a5 :: a6 :: some (.int x) :: L) (st) := R_iincG hd rfl rfl hc hn kk
theorem R_iload8 {a0 a1 a2 a3 a4 a5 a6 a7 : Option Value} {x : Int32} (hd : decode cc pc = .ok (.iload 8, 2)) (kk : Run l D cA N0 own cc nL ret nm R X F h k n (pc + 2) (a0 :: a1 :: a2 :: a3 :: a4 :: a5 :: a6 :: a7 :: some (.int x) :: L) (.int x :: st)) : Run l D cA N0 own cc nL ret nm R X F h k n (pc) (a0 :: a1 :: a2 :: a3 :: a4 :: a5 :: a6 :: a7 :: some (.int x) :: L) (st) := R_iloadG hd rfl kk
theorem R_aload8 {a0 a1 a2 a3 a4 a5 a6 a7 : Option Value} {x : Nat} (hd : decode cc pc = .ok (.aload 8, 2)) (kk : Run l D cA N0 own cc nL ret nm R X F h k n (pc + 2) (a0 :: a1 :: a2 :: a3 :: a4 :: a5 :: a6 :: a7 :: some (.ref x) :: L) (.ref x :: st)) : Run l D cA N0 own cc nL ret nm R X F h k n (pc) (a0 :: a1 :: a2 :: a3 :: a4 :: a5 :: a6 :: a7 :: some (.ref x) :: L) (st) := R_aloadG hd rfl kk
theorem R_aloadN8 {a0 a1 a2 a3 a4 a5 a6 a7 : Option Value} (hd : decode cc pc = .ok (.aload 8, 2)) (kk : Run l D cA N0 own cc nL ret nm R X F h k n (pc + 2) (a0 :: a1 :: a2 :: a3 :: a4 :: a5 :: a6 :: a7 :: some .null :: L) (.null :: st)) : Run l D cA N0 own cc nL ret nm R X F h k n (pc) (a0 :: a1 :: a2 :: a3 :: a4 :: a5 :: a6 :: a7 :: some .null :: L) (st) := R_aloadNG hd rfl kk
theorem R_istore8 {a0 a1 a2 a3 a4 a5 a6 a7 : Option Value} {o : Option Value} {x : Int32} (hd : decode cc pc = .ok (.istore 8, 2)) (hc : c1 (a0 :: a1 :: a2 :: a3 :: a4 :: a5 :: a6 :: a7 :: o :: L) = true) (hn : 8 < nL) (kk : Run l D cA N0 own cc nL ret nm R X F h k n (pc + 2) (a0 :: a1 :: a2 :: a3 :: a4 :: a5 :: a6 :: a7 :: some (.int x) :: L) (st)) : Run l D cA N0 own cc nL ret nm R X F h k n (pc) (a0 :: a1 :: a2 :: a3 :: a4 :: a5 :: a6 :: a7 :: o :: L) (.int x :: st) := R_istoreG hd hc (by simp only [List.length_cons]; show _ < _ + 1; omega) hn kk
theorem R_astore8 {a0 a1 a2 a3 a4 a5 a6 a7 : Option Value} {o : Option Value} {x : Nat} (hd : decode cc pc = .ok (.astore 8, 2)) (hc : c1 (a0 :: a1 :: a2 :: a3 :: a4 :: a5 :: a6 :: a7 :: o :: L) = true) (hn : 8 < nL) (kk : Run l D cA N0 own cc nL ret nm R X F h k n (pc + 2) (a0 :: a1 :: a2 :: a3 :: a4 :: a5 :: a6 :: a7 :: some (.ref x) :: L) (st)) : Run l D cA N0 own cc nL ret nm R X F h k n (pc) (a0 :: a1 :: a2 :: a3 :: a4 :: a5 :: a6 :: a7 :: o :: L) (.ref x :: st) := R_astoreG hd hc (by simp only [List.length_cons]; show _ < _ + 1; omega) hn kk
theorem R_astoreN8 {a0 a1 a2 a3 a4 a5 a6 a7 : Option Value} {o : Option Value} (hd : decode cc pc = .ok (.astore 8, 2)) (hc : c1 (a0 :: a1 :: a2 :: a3 :: a4 :: a5 :: a6 :: a7 :: o :: L) = true) (hn : 8 < nL) (kk : Run l D cA N0 own cc nL ret nm R X F h k n (pc + 2) (a0 :: a1 :: a2 :: a3 :: a4 :: a5 :: a6 :: a7 :: some (.null) :: L) (st)) : Run l D cA N0 own cc nL ret nm R X F h k n (pc) (a0 :: a1 :: a2 :: a3 :: a4 :: a5 :: a6 :: a7 :: o :: L) (.null :: st) := R_astoreNG hd hc (by simp only [List.length_cons]; show _ < _ + 1; omega) hn kk
theorem R_iinc8 {a0 a1 a2 a3 a4 a5 a6 a7 : Option Value} {x : Int32} {z : Int} (hd : decode cc pc = .ok (.iinc 8 z, 3)) (hc : c1 (a0 :: a1 :: a2 :: a3 :: a4 :: a5 :: a6 :: a7 :: some (.int x) :: L) = true) (hn : 8 < nL) (kk : Run l D cA N0 own cc nL ret nm R X F h k n (pc + 3) (a0 :: a1 :: a2 :: a3 :: a4 :: a5 :: a6 :: a7 :: some (.int (x + Int32.ofInt z)) :: L) (st)) : Run l D cA N0 own cc nL ret nm R X F h k n (pc) (a0 :: a1 :: a2 :: a3 :: a4 :: a5 :: a6 :: a7 :: some (.int x) :: L) (st) := R_iincG hd rfl rfl hc hn kk
theorem R_iadd {x y : Int32} (hd : decode cc pc = .ok (.iadd, 1)) (kk : Run l D cA N0 own cc nL ret nm R X F h k n (pc + 1) L (.int (x + y) :: st)) : Run l D cA N0 own cc nL ret nm R X F h k n (pc) L (.int y :: .int x :: st) := by
  intro p e s m args below meth c H locs ls Cc hR hS hL
  obtain ⟨hx, hb, hml, hrt, hlk, hown, hnm, hts, hK, hN, hX⟩ := id Cc
  exact lv_iadd hx hb hd (kk p e s m args below meth c H locs ls Cc hR hS hL)
theorem R_isub {x y : Int32} (hd : decode cc pc = .ok (.isub, 1)) (kk : Run l D cA N0 own cc nL ret nm R X F h k n (pc + 1) L (.int (x - y) :: st)) : Run l D cA N0 own cc nL ret nm R X F h k n (pc) L (.int y :: .int x :: st) := by
  intro p e s m args below meth c H locs ls Cc hR hS hL
  obtain ⟨hx, hb, hml, hrt, hlk, hown, hnm, hts, hK, hN, hX⟩ := id Cc
  exact lv_isub hx hb hd (kk p e s m args below meth c H locs ls Cc hR hS hL)
theorem R_imul {x y : Int32} (hd : decode cc pc = .ok (.imul, 1)) (kk : Run l D cA N0 own cc nL ret nm R X F h k n (pc + 1) L (.int (x * y) :: st)) : Run l D cA N0 own cc nL ret nm R X F h k n (pc) L (.int y :: .int x :: st) := by
  intro p e s m args below meth c H locs ls Cc hR hS hL
  obtain ⟨hx, hb, hml, hrt, hlk, hown, hnm, hts, hK, hN, hX⟩ := id Cc
  exact lv_imul hx hb hd (kk p e s m args below meth c H locs ls Cc hR hS hL)
theorem R_iand {x y : Int32} (hd : decode cc pc = .ok (.iand, 1)) (kk : Run l D cA N0 own cc nL ret nm R X F h k n (pc + 1) L (.int (x &&& y) :: st)) : Run l D cA N0 own cc nL ret nm R X F h k n (pc) L (.int y :: .int x :: st) := by
  intro p e s m args below meth c H locs ls Cc hR hS hL
  obtain ⟨hx, hb, hml, hrt, hlk, hown, hnm, hts, hK, hN, hX⟩ := id Cc
  exact lv_iand hx hb hd (kk p e s m args below meth c H locs ls Cc hR hS hL)
theorem R_ior {x y : Int32} (hd : decode cc pc = .ok (.ior, 1)) (kk : Run l D cA N0 own cc nL ret nm R X F h k n (pc + 1) L (.int (x ||| y) :: st)) : Run l D cA N0 own cc nL ret nm R X F h k n (pc) L (.int y :: .int x :: st) := by
  intro p e s m args below meth c H locs ls Cc hR hS hL
  obtain ⟨hx, hb, hml, hrt, hlk, hown, hnm, hts, hK, hN, hX⟩ := id Cc
  exact lv_ior hx hb hd (kk p e s m args below meth c H locs ls Cc hR hS hL)
theorem R_ixor {x y : Int32} (hd : decode cc pc = .ok (.ixor, 1)) (kk : Run l D cA N0 own cc nL ret nm R X F h k n (pc + 1) L (.int (x ^^^ y) :: st)) : Run l D cA N0 own cc nL ret nm R X F h k n (pc) L (.int y :: .int x :: st) := by
  intro p e s m args below meth c H locs ls Cc hR hS hL
  obtain ⟨hx, hb, hml, hrt, hlk, hown, hnm, hts, hK, hN, hX⟩ := id Cc
  exact lv_ixor hx hb hd (kk p e s m args below meth c H locs ls Cc hR hS hL)
theorem R_ishl {x y : Int32} (hd : decode cc pc = .ok (.ishl, 1)) (kk : Run l D cA N0 own cc nL ret nm R X F h k n (pc + 1) L (.int (x <<< (y &&& 31)) :: st)) : Run l D cA N0 own cc nL ret nm R X F h k n (pc) L (.int y :: .int x :: st) := by
  intro p e s m args below meth c H locs ls Cc hR hS hL
  obtain ⟨hx, hb, hml, hrt, hlk, hown, hnm, hts, hK, hN, hX⟩ := id Cc
  exact lv_ishl hx hb hd (kk p e s m args below meth c H locs ls Cc hR hS hL)
theorem R_ishr {x y : Int32} (hd : decode cc pc = .ok (.ishr, 1)) (kk : Run l D cA N0 own cc nL ret nm R X F h k n (pc + 1) L (.int (x >>> (y &&& 31)) :: st)) : Run l D cA N0 own cc nL ret nm R X F h k n (pc) L (.int y :: .int x :: st) := by
  intro p e s m args below meth c H locs ls Cc hR hS hL
  obtain ⟨hx, hb, hml, hrt, hlk, hown, hnm, hts, hK, hN, hX⟩ := id Cc
  exact lv_ishr hx hb hd (kk p e s m args below meth c H locs ls Cc hR hS hL)
theorem R_iushr {x y : Int32} (hd : decode cc pc = .ok (.iushr, 1)) (kk : Run l D cA N0 own cc nL ret nm R X F h k n (pc + 1) L (.int ((x.toUInt32 >>> (y.toUInt32 &&& Int32.toUInt32 31)).toInt32) :: st)) : Run l D cA N0 own cc nL ret nm R X F h k n (pc) L (.int y :: .int x :: st) := by
  intro p e s m args below meth c H locs ls Cc hR hS hL
  obtain ⟨hx, hb, hml, hrt, hlk, hown, hnm, hts, hK, hN, hX⟩ := id Cc
  exact lv_iushr hx hb hd rfl (kk p e s m args below meth c H locs ls Cc hR hS hL)
theorem R_idiv {x y : Int32} (hd : decode cc pc = .ok (.idiv, 1)) (hy : ¬ y = 0) (kk : Run l D cA N0 own cc nL ret nm R X F h k n (pc + 1) L (.int (x / y) :: st)) : Run l D cA N0 own cc nL ret nm R X F h k n (pc) L (.int y :: .int x :: st) := by
  intro p e s m args below meth c H locs ls Cc hR hS hL
  obtain ⟨hx, hb, hml, hrt, hlk, hown, hnm, hts, hK, hN, hX⟩ := id Cc
  exact lv_idiv hx hb hd hy (kk p e s m args below meth c H locs ls Cc hR hS hL)
theorem R_irem {x y : Int32} (hd : decode cc pc = .ok (.irem, 1)) (hy : ¬ y = 0) (kk : Run l D cA N0 own cc nL ret nm R X F h k n (pc + 1) L (.int (x - x / y * y) :: st)) : Run l D cA N0 own cc nL ret nm R X F h k n (pc) L (.int y :: .int x :: st) := by
  intro p e s m args below meth c H locs ls Cc hR hS hL
  obtain ⟨hx, hb, hml, hrt, hlk, hown, hnm, hts, hK, hN, hX⟩ := id Cc
  exact lv_irem hx hb hd hy (kk p e s m args below meth c H locs ls Cc hR hS hL)
theorem R_i2l {x : Int32} (hd : decode cc pc = .ok (.i2l, 1)) (kk : Run l D cA N0 own cc nL ret nm R X F h k n (pc + 1) L (.long x.toInt64 :: st)) : Run l D cA N0 own cc nL ret nm R X F h k n (pc) L (.int x :: st) := by
  intro p e s m args below meth c H locs ls Cc hR hS hL
  obtain ⟨hx, hb, hml, hrt, hlk, hown, hnm, hts, hK, hN, hX⟩ := id Cc
  exact lv_i2l hx hb hd rfl (kk p e s m args below meth c H locs ls Cc hR hS hL)
theorem R_lcmp {x y : Int64} (hd : decode cc pc = .ok (.lcmp, 1)) (kk : Run l D cA N0 own cc nL ret nm R X F h k n (pc + 1) L (.int (lg_cmp x y) :: st)) : Run l D cA N0 own cc nL ret nm R X F h k n (pc) L (.long y :: .long x :: st) := by
  intro p e s m args below meth c H locs ls Cc hR hS hL
  obtain ⟨hx, hb, hml, hrt, hlk, hown, hnm, hts, hK, hN, hX⟩ := id Cc
  exact W.lcmp hx hb hd (kk p e s m args below meth c H locs ls Cc hR hS hL)
theorem R_pop {v : Value} (hd : decode cc pc = .ok (.pop, 1)) (hv : v.category = 1) (kk : Run l D cA N0 own cc nL ret nm R X F h k n (pc + 1) L (st)) : Run l D cA N0 own cc nL ret nm R X F h k n (pc) L (v :: st) := by
  intro p e s m args below meth c H locs ls Cc hR hS hL
  obtain ⟨hx, hb, hml, hrt, hlk, hown, hnm, hts, hK, hN, hX⟩ := id Cc
  exact lv_pop hx hb hd hv (kk p e s m args below meth c H locs ls Cc hR hS hL)
theorem R_dup {v : Value} (hd : decode cc pc = .ok (.dup, 1)) (hv : v.category = 1) (kk : Run l D cA N0 own cc nL ret nm R X F h k n (pc + 1) L (v :: v :: st)) : Run l D cA N0 own cc nL ret nm R X F h k n (pc) L (v :: st) := by
  intro p e s m args below meth c H locs ls Cc hR hS hL
  obtain ⟨hx, hb, hml, hrt, hlk, hown, hnm, hts, hK, hN, hX⟩ := id Cc
  exact lv_dup hx hb hd hv (kk p e s m args below meth c H locs ls Cc hR hS hL)
theorem R_dup2 {v w : Value} (hd : decode cc pc = .ok (.dup2, 1)) (hv : v.category = 1) (hw : w.category = 1) (kk : Run l D cA N0 own cc nL ret nm R X F h k n (pc + 1) L (v :: w :: v :: w :: st)) : Run l D cA N0 own cc nL ret nm R X F h k n (pc) L (v :: w :: st) := by
  intro p e s m args below meth c H locs ls Cc hR hS hL
  obtain ⟨hx, hb, hml, hrt, hlk, hown, hnm, hts, hK, hN, hX⟩ := id Cc
  exact lv_dup2_11 hx hb hd hv hw (kk p e s m args below meth c H locs ls Cc hR hS hL)
theorem R_goto {off : Int} (tgt : Nat) (hd : decode cc pc = .ok (.goto off, 3)) (ht : (pc : Int) + off = (tgt : Int)) (kk : Run l D cA N0 own cc nL ret nm R X F h k n (tgt) L (st)) : Run l D cA N0 own cc nL ret nm R X F h k n (pc) L (st) := by
  intro p e s m args below meth c H locs ls Cc hR hS hL
  obtain ⟨hx, hb, hml, hrt, hlk, hown, hnm, hts, hK, hN, hX⟩ := id Cc
  exact lv_goto hx hb hd ht (kk p e s m args below meth c H locs ls Cc hR hS hL)
theorem R_if_eq {x : Int32} {off : Int} (tgt : Nat) (hd : decode cc pc = .ok (.ifCond .eq off, 3)) (ht : (pc : Int) + off = (tgt : Int)) (kt : x = 0 → Run l D cA N0 own cc nL ret nm R X F h k n (tgt) L (st)) (kf : ¬ x = 0 → Run l D cA N0 own cc nL ret nm R X F h k n (pc + 3) L (st)) : Run l D cA N0 own cc nL ret nm R X F h k n (pc) L (.int x :: st) := by
  intro p e s m args below meth c H locs ls Cc hR hS hL
  obtain ⟨hx, hb, hml, hrt, hlk, hown, hnm, hts, hK, hN, hX⟩ := id Cc
  exact lv_if_eq hx hb hd ht (fun q => kt q p e s m args below meth c H locs ls Cc hR hS hL) (fun q => kf q p e s m args below meth c H locs ls Cc hR hS hL)
theorem R_icmp_eq {x y : Int32} {off : Int} (tgt : Nat) (hd : decode cc pc = .ok (.if_icmp .eq off, 3)) (ht : (pc : Int) + off = (tgt : Int)) (kt : x = y → Run l D cA N0 own cc nL ret nm R X F h k n (tgt) L (st)) (kf : ¬ x = y → Run l D cA N0 own cc nL ret nm R X F h k n (pc + 3) L (st)) : Run l D cA N0 own cc nL ret nm R X F h k n (pc) L (.int y :: .int x :: st) := by
  intro p e s m args below meth c H locs ls Cc hR hS hL
  obtain ⟨hx, hb, hml, hrt, hlk, hown, hnm, hts, hK, hN, hX⟩ := id Cc
  exact lv_icmp_eq hx hb hd ht (fun q => kt q p e s m args below meth c H locs ls Cc hR hS hL) (fun q => kf q p e s m args below meth c H locs ls Cc hR hS hL)
theorem R_if_ne {x : Int32} {off : Int} (tgt : Nat) (hd : decode cc pc = .ok (.ifCond .ne off, 3)) (ht : (pc : Int) + off = (tgt : Int)) (kt : ¬ x = 0 → Run l D cA N0 own cc nL ret nm R X F h k n (tgt) L (st)) (kf : x = 0 → Run l D cA N0 own cc nL ret nm R X F h k n (pc + 3) L (st)) : Run l D cA N0 own cc nL ret nm R X F h k n (pc) L (.int x :: st) := by
  intro p e s m args below meth c H locs ls Cc hR hS hL
  obtain ⟨hx, hb, hml, hrt, hlk, hown, hnm, hts, hK, hN, hX⟩ := id Cc
  exact lv_if_ne hx hb hd ht (fun q => kt q p e s m args below meth c H locs ls Cc hR hS hL) (fun q => kf q p e s m args below meth c H locs ls Cc hR hS hL)
theorem R_icmp_ne {x y : Int32} {off : Int} (tgt : Nat) (hd : decode cc pc = .ok (.if_icmp .ne off, 3)) (ht : (pc : Int) + off = (tgt : Int)) (kt : ¬ x = y → Run l D cA N0 own cc nL ret nm R X F h k n (tgt) L (st)) (kf : x = y → Run l D cA N0 own cc nL ret nm R X F h k n (pc + 3) L (st)) : Run l D cA N0 own cc nL ret nm R X F h k n (pc) L (.int y :: .int x :: st) := by
  intro p e s m args below meth c H locs ls Cc hR hS hL
  obtain ⟨hx, hb, hml, hrt, hlk, hown, hnm, hts, hK, hN, hX⟩ := id Cc
  exact lv_icmp_ne hx hb hd ht (fun q => kt q p e s m args below meth c H locs ls Cc hR hS hL) (fun q => kf q p e s m args below meth c H locs ls Cc hR hS hL)
theorem R_if_lt {x : Int32} {off : Int} (tgt : Nat) (hd : decode cc pc = .ok (.ifCond .lt off, 3)) (ht : (pc : Int) + off = (tgt : Int)) (kt : x < 0 → Run l D cA N0 own cc nL ret nm R X F h k n (tgt) L (st)) (kf : ¬ x < 0 → Run l D cA N0 own cc nL ret nm R X F h k n (pc + 3) L (st)) : Run l D cA N0 own cc nL ret nm R X F h k n (pc) L (.int x :: st) := by
  intro p e s m args below meth c H locs ls Cc hR hS hL
  obtain ⟨hx, hb, hml, hrt, hlk, hown, hnm, hts, hK, hN, hX⟩ := id Cc
  exact lv_if_lt hx hb hd ht (fun q => kt q p e s m args below meth c H locs ls Cc hR hS hL) (fun q => kf q p e s m args below meth c H locs ls Cc hR hS hL)
theorem R_icmp_lt {x y : Int32} {off : Int} (tgt : Nat) (hd : decode cc pc = .ok (.if_icmp .lt off, 3)) (ht : (pc : Int) + off = (tgt : Int)) (kt : x < y → Run l D cA N0 own cc nL ret nm R X F h k n (tgt) L (st)) (kf : ¬ x < y → Run l D cA N0 own cc nL ret nm R X F h k n (pc + 3) L (st)) : Run l D cA N0 own cc nL ret nm R X F h k n (pc) L (.int y :: .int x :: st) := by
  intro p e s m args below meth c H locs ls Cc hR hS hL
  obtain ⟨hx, hb, hml, hrt, hlk, hown, hnm, hts, hK, hN, hX⟩ := id Cc
  exact lv_icmp_lt hx hb hd ht (fun q => kt q p e s m args below meth c H locs ls Cc hR hS hL) (fun q => kf q p e s m args below meth c H locs ls Cc hR hS hL)
theorem R_if_ge {x : Int32} {off : Int} (tgt : Nat) (hd : decode cc pc = .ok (.ifCond .ge off, 3)) (ht : (pc : Int) + off = (tgt : Int)) (kt : 0 ≤ x → Run l D cA N0 own cc nL ret nm R X F h k n (tgt) L (st)) (kf : ¬ 0 ≤ x → Run l D cA N0 own cc nL ret nm R X F h k n (pc + 3) L (st)) : Run l D cA N0 own cc nL ret nm R X F h k n (pc) L (.int x :: st) := by
  intro p e s m args below meth c H locs ls Cc hR hS hL
  obtain ⟨hx, hb, hml, hrt, hlk, hown, hnm, hts, hK, hN, hX⟩ := id Cc
  exact lv_if_ge hx hb hd ht (fun q => kt q p e s m args below meth c H locs ls Cc hR hS hL) (fun q => kf q p e s m args below meth c H locs ls Cc hR hS hL)
theorem R_icmp_ge {x y : Int32} {off : Int} (tgt : Nat) (hd : decode cc pc = .ok (.if_icmp .ge off, 3)) (ht : (pc : Int) + off = (tgt : Int)) (kt : y ≤ x → Run l D cA N0 own cc nL ret nm R X F h k n (tgt) L (st)) (kf : ¬ y ≤ x → Run l D cA N0 own cc nL ret nm R X F h k n (pc + 3) L (st)) : Run l D cA N0 own cc nL ret nm R X F h k n (pc) L (.int y :: .int x :: st) := by
  intro p e s m args below meth c H locs ls Cc hR hS hL
  obtain ⟨hx, hb, hml, hrt, hlk, hown, hnm, hts, hK, hN, hX⟩ := id Cc
  exact lv_icmp_ge hx hb hd ht (fun q => kt q p e s m args below meth c H locs ls Cc hR hS hL) (fun q => kf q p e s m args below meth c H locs ls Cc hR hS hL)
theorem R_if_gt {x : Int32} {off : Int} (tgt : Nat) (hd : decode cc pc = .ok (.ifCond .gt off, 3)) (ht : (pc : Int) + off = (tgt : Int)) (kt : 0 < x → Run l D cA N0 own cc nL ret nm R X F h k n (tgt) L (st)) (kf : ¬ 0 < x → Run l D cA N0 own cc nL ret nm R X F h k n (pc + 3) L (st)) : Run l D cA N0 own cc nL ret nm R X F h k n (pc) L (.int x :: st) := by
  intro p e s m args below meth c H locs ls Cc hR hS hL
  obtain ⟨hx, hb, hml, hrt, hlk, hown, hnm, hts, hK, hN, hX⟩ := id Cc
  exact lv_if_gt hx hb hd ht (fun q => kt q p e s m args below meth c H locs ls Cc hR hS hL) (fun q => kf q p e s m args below meth c H locs ls Cc hR hS hL)
theorem R_icmp_gt {x y : Int32} {off : Int} (tgt : Nat) (hd : decode cc pc = .ok (.if_icmp .gt off, 3)) (ht : (pc : Int) + off = (tgt : Int)) (kt : y < x → Run l D cA N0 own cc nL ret nm R X F h k n (tgt) L (st)) (kf : ¬ y < x → Run l D cA N0 own cc nL ret nm R X F h k n (pc + 3) L (st)) : Run l D cA N0 own cc nL ret nm R X F h k n (pc) L (.int y :: .int x :: st) := by
  intro p e s m args below meth c H locs ls Cc hR hS hL
  obtain ⟨hx, hb, hml, hrt, hlk, hown, hnm, hts, hK, hN, hX⟩ := id Cc
  exact lv_icmp_gt hx hb hd ht (fun q => kt q p e s m args below meth c H locs ls Cc hR hS hL) (fun q => kf q p e s m args below meth c H locs ls Cc hR hS hL)
theorem R_if_le {x : Int32} {off : Int} (tgt : Nat) (hd : decode cc pc = .ok (.ifCond .le off, 3)) (ht : (pc : Int) + off = (tgt : Int)) (kt : x ≤ 0 → Run l D cA N0 own cc nL ret nm R X F h k n (tgt) L (st)) (kf : ¬ x ≤ 0 → Run l D cA N0 own cc nL ret nm R X F h k n (pc + 3) L (st)) : Run l D cA N0 own cc nL ret nm R X F h k n (pc) L (.int x :: st) := by
  intro p e s m args below meth c H locs ls Cc hR hS hL
  obtain ⟨hx, hb, hml, hrt, hlk, hown, hnm, hts, hK, hN, hX⟩ := id Cc
  exact lv_if_le hx hb hd ht (fun q => kt q p e s m args below meth c H locs ls Cc hR hS hL) (fun q => kf q p e s m args below meth c H locs ls Cc hR hS hL)
theorem R_icmp_le {x y : Int32} {off : Int} (tgt : Nat) (hd : decode cc pc = .ok (.if_icmp .le off, 3)) (ht : (pc : Int) + off = (tgt : Int)) (kt : x ≤ y → Run l D cA N0 own cc nL ret nm R X F h k n (tgt) L (st)) (kf : ¬ x ≤ y → Run l D cA N0 own cc nL ret nm R X F h k n (pc + 3) L (st)) : Run l D cA N0 own cc nL ret nm R X F h k n (pc) L (.int y :: .int x :: st) := by
  intro p e s m args below meth c H locs ls Cc hR hS hL
  obtain ⟨hx, hb, hml, hrt, hlk, hown, hnm, hts, hK, hN, hX⟩ := id Cc
  exact lv_icmp_le hx hb hd ht (fun q => kt q p e s m args below meth c H locs ls Cc hR hS hL) (fun q => kf q p e s m args below meth c H locs ls Cc hR hS hL)
theorem R_ifnull {x : Nat} {off : Int} (hd : decode cc pc = .ok (.ifnull off, 3)) (kk : Run l D cA N0 own cc nL ret nm R X F h k n (pc + 3) L (st)) : Run l D cA N0 own cc nL ret nm R X F h k n (pc) L (.ref x :: st) := by
  intro p e s m args below meth c H locs ls Cc hR hS hL
  obtain ⟨hx, hb, hml, hrt, hlk, hown, hnm, hts, hK, hN, hX⟩ := id Cc
  exact lv_ifnull hx hb hd (kk p e s m args below meth c H locs ls Cc hR hS hL)
theorem R_ifnonnull {x : Nat} {off : Int} (tgt : Nat) (hd : decode cc pc = .ok (.ifnonnull off, 3)) (ht : (pc : Int) + off = (tgt : Int)) (kk : Run l D cA N0 own cc nL ret nm R X F h k n (tgt) L (st)) : Run l D cA N0 own cc nL ret nm R X F h k n (pc) L (.ref x :: st) := by
  intro p e s m args below meth c H locs ls Cc hR hS hL
  obtain ⟨hx, hb, hml, hrt, hlk, hown, hnm, hts, hK, hN, hX⟩ := id Cc
  exact lv_ifnonnull hx hb hd ht (kk p e s m args below meth c H locs ls Cc hR hS hL)
theorem R_ifnullN {off : Int} (tgt : Nat) (hd : decode cc pc = .ok (.ifnull off, 3)) (ht : (pc : Int) + off = (tgt : Int)) (kk : Run l D cA N0 own cc nL ret nm R X F h k n (tgt) L (st)) : Run l D cA N0 own cc nL ret nm R X F h k n (pc) L (.null :: st) := by
  intro p e s m args below meth c H locs ls Cc hR hS hL
  obtain ⟨hx, hb, hml, hrt, hlk, hown, hnm, hts, hK, hN, hX⟩ := id Cc
  exact lv_ifnullN hx hb hd ht (kk p e s m args below meth c H locs ls Cc hR hS hL)
theorem R_ifnonnullN {off : Int} (hd : decode cc pc = .ok (.ifnonnull off, 3)) (kk : Run l D cA N0 own cc nL ret nm R X F h k n (pc + 3) L (st)) : Run l D cA N0 own cc nL ret nm R X F h k n (pc) L (.null :: st) := by
  intro p e s m args below meth c H locs ls Cc hR hS hL
  obtain ⟨hx, hb, hml, hrt, hlk, hown, hnm, hts, hK, hN, hX⟩ := id Cc
  exact lv_ifnonnullN hx hb hd (kk p e s m args below meth c H locs ls Cc hR hS hL)
theorem R_tableOut {dflt lo hi : Int} {offs : Array Int} {len : Nat} {x : Int32} (tgt : Nat) (hd : decode cc pc = .ok (.tableswitch dflt lo hi offs, len)) (hq : x.toInt < lo ∨ hi < x.toInt) (ht : (pc : Int) + dflt = (tgt : Int)) (kk : Run l D cA N0 own cc nL ret nm R X F h k n (tgt) L (st)) : Run l D cA N0 own cc nL ret nm R X F h k n (pc) L (.int x :: st) := by
  intro p e s m args below meth c H locs ls Cc hR hS hL
  obtain ⟨hx, hb, hml, hrt, hlk, hown, hnm, hts, hK, hN, hX⟩ := id Cc
  exact lv_tableOut hx hb hd hq ht (kk p e s m args below meth c H locs ls Cc hR hS hL)
theorem R_tableIn {dflt lo hi : Int} {offs : Array Int} {len : Nat} {x : Int32} {off : Int} (tgt : Nat) (hd : decode cc pc = .ok (.tableswitch dflt lo hi offs, len)) (h1 : ¬ x.toInt < lo) (h2 : ¬ hi < x.toInt) (ho : offs[(x.toInt - lo).toNat]? = some off) (ht : (pc : Int) + off = (tgt : Int)) (kk : Run l D cA N0 own cc nL ret nm R X F h k n (tgt) L (st)) : Run l D cA N0 own cc nL ret nm R X F h k n (pc) L (.int x :: st) := by
  intro p e s m args below meth c H locs ls Cc hR hS hL
  obtain ⟨hx, hb, hml, hrt, hlk, hown, hnm, hts, hK, hN, hX⟩ := id Cc
  exact lv_tableIn hx hb hd h1 h2 ho ht (kk p e s m args below meth c H locs ls Cc hR hS hL)
theorem R_widen {k2 n2 : Nat} (h1 : k ≤ k2) (h2 : n ≤ n2) (kk : Run l D cA N0 own cc nL ret nm R X F h k2 n2 (pc) L (st)) : Run l D cA N0 own cc nL ret nm R X F h k n (pc) L (st) := by
  intro p e s m args below meth c H locs ls Cc hR hS hL
  obtain ⟨hx, hb, hml, hrt, hlk, hown, hnm, hts, hK, hN, hX⟩ := id Cc
  exact W.widen h1 h2 (kk p e s m args below meth c H locs ls Cc hR hS hL)
theorem Rh.one {D : va_G} {cA : Nat → ClassId} {N0 : Nat} {h : AH} {H : Heap} (hR : Rh D cA N0 h H) {a : Nat} {e0 : AE} (ha : h.2 a = some e0) : va_P D vwCl [(a, toE cA e0)] H := fun q0 q hq => by
  have hz : q0 < 1 := (List.getElem?_eq_some_iff.mp hq).1
  rw [show q0 = 0 by omega] at hq
  cases hq
  exact (hR.2 a e0 ha).2
theorem R_get {a ci i idx N : Nat} {T : u_T} {C : String} {fs : List Value} {v : Value} (hd : decode cc pc = .ok (.getfield idx, 3)) (hw : Cond.fieldLink own idx (T i).1 (T i).2.1 (T i).2.2.1 ∈ WSa) (hc : vwCl[ci]? = some (C, T, N)) (hin : ∀ w ∈ u_ws C T N, w ∈ WSa) (hi : i < N) (ha : h.2 a = some (.inr (ci, fs))) (hv : fs[i]? = some v) (kk : Run l D cA N0 own cc nL ret nm R X F h k n (pc + 3) L (v :: st)) : Run l D cA N0 own cc nL ret nm R X F h k n (pc) L (.ref a :: st) := by
  intro p e s m args below meth c H locs ls Cc hR hS hL
  obtain ⟨hx, hb, hml, hrt, hlk, hown, hnm, hts, hK, hN, hX⟩ := id Cc
  exact va_get hx hb hts hin hown hK.1 (hR.one ha) 0 rfl hc i hi (hts _ hw) (fun _ q => q) hv hd (kk p e s m args below meth c H locs ls Cc hR hS hL)
theorem R_put {a ci i idx N : Nat} {T : u_T} {C : String} {fs : List Value} {v : Value} {ty : Nat → FieldType} (hd : decode cc pc = .ok (.putfield idx, 3)) (hw : Cond.fieldLink own idx (T i).1 (T i).2.1 (T i).2.2.1 ∈ WSa) (hc : vwCl[ci]? = some (C, T, N)) (hin : ∀ w ∈ u_ws C T N, w ∈ WSa) (hty : ∀ j, j < N → parseFieldDescriptor (T j).2.2.1 = some (ty j)) (hap : ∀ a, a < N → ∀ b, b < N → a ≠ b → (T a).2.1 ≠ (T b).2.1) (hi : i < N) (hfin : (T i).2.2.2 = false) (hnar : narrow (ty i) v = v) (hfit : fits (ty i) v = true) (ha : h.2 a = some (.inr (ci, fs))) (hl : i < fs.length) (kk : Run l D cA N0 own cc nL ret nm R X F (hput h a (.inr (ci, fs.set i v))) k n (pc + 3) L (st)) : Run l D cA N0 own cc nL ret nm R X F h k n (pc) L (v :: .ref a :: st) := by
  intro p e s m args below meth c H locs ls Cc hR hS hL
  obtain ⟨hx, hb, hml, hrt, hlk, hown, hnm, hts, hK, hN, hX⟩ := id Cc
  have hap2 := va_apart (own := own) hts hin ty hty hap hK.1 hc
  obtain ⟨hNa, r, h1, cell, q1, q2, q3, q4⟩ := hR.2 a _ ha
  have hr : r = (C, T, N) := Option.some.inj (h1.symm.trans hc)
  subst hr
  obtain ⟨hSi, hfc, kC, hkC, hkind⟩ := hK.1.1 ci _ hc
  obtain ⟨cf, kf, fi, f, hif, hsl⟩ := hSi i hi
  have hty2 := hty i hi
  have hlay := hts _ (hin _ (u_in_lay hi))
  unfold u_lay at hlay
  rw [if_neg (by rw [hfin]; decide)] at hlay
  refine W.putK hx hb (f := f) ⟨hown, hts _ hw, ⟨_, _, _, hif⟩, (u_facts hfc hkC (u_lays hts hin hi) hif).1⟩ (by rw [q2]; exact u_store hfc hkC hkind hlay hif hty2 hnar hfit) q1 q3 (by rw [hsl]; exact k2_hasslot (q4 i hi)) rfl rfl hd fun H' e1 e2 e3 => ?_
  rw [hsl] at e1 ⊢
  exact kk p e s m args below meth c H' _ ls Cc (hR.put hNa ⟨_, hc, t_OB.to (V := updV (vp_V fs) i v) ⟨_, e1, q2, q3, t_set q4 hap2 hi v⟩ (fun j _ => vp_updV_set hl v j)⟩ e2 e3) (hS.put e2 e3 hNa) hL
theorem R_putF {a ci i idx N : Nat} {T : u_T} {C : String} {fs : List Value} {v : Value} {ty : Nat → FieldType} (hd : decode cc pc = .ok (.putfield idx, 3)) (hw : Cond.fieldLink own idx (T i).1 (T i).2.1 (T i).2.2.1 ∈ WSa) (hc : vwCl[ci]? = some (C, T, N)) (hin : ∀ w ∈ u_ws C T N, w ∈ WSa) (hty : ∀ j, j < N → parseFieldDescriptor (T j).2.2.1 = some (ty j)) (hap : ∀ a, a < N → ∀ b, b < N → a ≠ b → (T a).2.1 ≠ (T b).2.1) (hi : i < N) (hfin : (T i).2.2.2 = true) (hnm0 : nm = "<init>") (hdecl : (T i).1 = own) (hnar : narrow (ty i) v = v) (hfit : fits (ty i) v = true) (ha : h.2 a = some (.inr (ci, fs))) (hl : i < fs.length) (kk : Run l D cA N0 own cc nL ret nm R X F (hput h a (.inr (ci, fs.set i v))) k n (pc + 3) L (st)) : Run l D cA N0 own cc nL ret nm R X F h k n (pc) L (v :: .ref a :: st) := by
  intro p e s m args below meth c H locs ls Cc hR hS hL
  obtain ⟨hx, hb, hml, hrt, hlk, hown, hnm, hts, hK, hN, hX⟩ := id Cc
  have hap2 := va_apart (own := own) hts hin ty hty hap hK.1 hc
  obtain ⟨hNa, r, h1, cell, q1, q2, q3, q4⟩ := hR.2 a _ ha
  have hr : r = (C, T, N) := Option.some.inj (h1.symm.trans hc)
  subst hr
  obtain ⟨hSi, hfc, kC, hkC, hkind⟩ := hK.1.1 ci _ hc
  obtain ⟨cf, kf, fi, f, hif, hsl⟩ := hSi i hi
  have hty2 := hty i hi
  have hlay := hts _ (hin _ (u_in_lay hi))
  unfold u_lay at hlay
  rw [if_pos hfin] at hlay
  have hcf : m.cls = cf := by
    obtain ⟨_, _, c', _, _, _, -, -, hf', -, -, -, hown2, -⟩ := Cond.laysFinal_spec hlay
    have e1 : c' = cf := by have := hif.symm.trans hf'; simp at this; exact this.1.symm
    rw [hdecl] at hown2
    rw [← e1]; exact Option.some.inj (hown.symm.trans hown2)
  refine W.putFinK hx hb hown (hts _ hw) hif (u_facts hfc hkC (u_lays hts hin hi) hif).1 hcf (hnm.trans hnm0) (by rw [q2]; exact u_fits hfc hkC hkind (Or.inr hlay) hif hty2 hnar hfit) q1 q3 (by rw [hsl]; exact k2_hasslot (q4 i hi)) rfl rfl hd fun H' e1 e2 e3 => ?_
  rw [hsl] at e1 ⊢
  exact kk p e s m args below meth c H' _ ls Cc (hR.put hNa ⟨_, hc, t_OB.to (V := updV (vp_V fs) i v) ⟨_, e1, q2, q3, t_set q4 hap2 hi v⟩ (fun j _ => vp_updV_set hl v j)⟩ e2 e3) (hS.put e2 e3 hNa) hL
theorem R_alen {a t : Nat} {x : vp_A} {v : Int32} (hd : decode cc pc = .ok (.arraylength, 1)) (ha : h.2 a = some (.inl (t, x))) (ht : t < 4) (hv : Int32.ofNat x.1 = v) (kk : Run l D cA N0 own cc nL ret nm R X F h k n (pc + 1) L (.int v :: st)) : Run l D cA N0 own cc nL ret nm R X F h k n (pc) L (.ref a :: st) := by
  intro p e s m args below meth c H locs ls Cc hR hS hL
  obtain ⟨hx, hb, hml, hrt, hlk, hown, hnm, hts, hK, hN, hX⟩ := id Cc
  have h4 : ∃ ty, (atys cA)[t]? = some (cA t, ty) := by
    rcases (by omega : t = 0 ∨ t = 1 ∨ t = 2 ∨ t = 3) with q | q | q | q <;> subst q <;> exact ⟨_, rfl⟩
  obtain ⟨ty, h4⟩ := h4
  exact va_alen hx hb hK.1 (hR.one ha) 0 t rfl h4 hv hd (kk p e s m args below meth c H locs ls Cc hR hS hL)
theorem R_iald {a N : Nat} {f : Nat → Int32} {j : Int32} (hd : decode cc pc = .ok (.iaload, 1)) (ha : h.2 a = some (.inl (0, N, .inl f))) (hj : vp_in j N) (kk : Run l D cA N0 own cc nL ret nm R X F h k n (pc + 1) L (.int (f j.toNatClampNeg) :: st)) : Run l D cA N0 own cc nL ret nm R X F h k n (pc) L (.int j :: .ref a :: st) := by
  intro p e s m args below meth c H locs ls Cc hR hS hL
  obtain ⟨hx, hb, hml, hrt, hlk, hown, hnm, hts, hK, hN, hX⟩ := id Cc
  exact va_iald hx hb hK.1 (hR.one ha) 0 0 rfl rfl hj hd (kk p e s m args below meth c H locs ls Cc hR hS hL)
theorem R_zald {a N : Nat} {f : Nat → Int32} {j : Int32} (hd : decode cc pc = .ok (.baload, 1)) (ha : h.2 a = some (.inl (1, N, .inl f))) (hj : vp_in j N) (kk : Run l D cA N0 own cc nL ret nm R X F h k n (pc + 1) L (.int (f j.toNatClampNeg) :: st)) : Run l D cA N0 own cc nL ret nm R X F h k n (pc) L (.int j :: .ref a :: st) := by
  intro p e s m args below meth c H locs ls Cc hR hS hL
  obtain ⟨hx, hb, hml, hrt, hlk, hown, hnm, hts, hK, hN, hX⟩ := id Cc
  exact va_zald hx hb hK.1 (hR.one ha) 0 1 rfl rfl hj hd (kk p e s m args below meth c H locs ls Cc hR hS hL)
theorem R_aald2 {a N : Nat} {f : Nat → Option Nat} {j : Int32} (hd : decode cc pc = .ok (.aaload, 1)) (ha : h.2 a = some (.inl (2, N, .inr (.inr (.inr (.inr f)))))) (hj : vp_in j N) (kk : Run l D cA N0 own cc nL ret nm R X F h k n (pc + 1) L (va_rf (f j.toNatClampNeg) :: st)) : Run l D cA N0 own cc nL ret nm R X F h k n (pc) L (.int j :: .ref a :: st) := by
  intro p e s m args below meth c H locs ls Cc hR hS hL
  obtain ⟨hx, hb, hml, hrt, hlk, hown, hnm, hts, hK, hN, hX⟩ := id Cc
  exact va_aldq (C := RX7) hx hb hK.1 (hR.one ha) 0 2 rfl rfl hj hd (kk p e s m args below meth c H locs ls Cc hR hS hL)
theorem R_aald3 {a N : Nat} {f : Nat → Option Nat} {j : Int32} (hd : decode cc pc = .ok (.aaload, 1)) (ha : h.2 a = some (.inl (3, N, .inr (.inr (.inr (.inr f)))))) (hj : vp_in j N) (kk : Run l D cA N0 own cc nL ret nm R X F h k n (pc + 1) L (va_rf (f j.toNatClampNeg) :: st)) : Run l D cA N0 own cc nL ret nm R X F h k n (pc) L (.int j :: .ref a :: st) := by
  intro p e s m args below meth c H locs ls Cc hR hS hL
  obtain ⟨hx, hb, hml, hrt, hlk, hown, hnm, hts, hK, hN, hX⟩ := id Cc
  exact va_aldq (C := RX8) hx hb hK.1 (hR.one ha) 0 3 rfl rfl hj hd (kk p e s m args below meth c H locs ls Cc hR hS hL)
theorem R_iast {a N : Nat} {f : Nat → Int32} {j x : Int32} (hd : decode cc pc = .ok (.iastore, 1)) (ha : h.2 a = some (.inl (0, N, .inl f))) (hj : vp_in j N) (kk : Run l D cA N0 own cc nL ret nm R X F (hput h a (.inl (0, N, .inl (upd f j.toNatClampNeg x)))) k n (pc + 1) L (st)) : Run l D cA N0 own cc nL ret nm R X F h k n (pc) L (.int x :: .int j :: .ref a :: st) := by
  intro p e s m args below meth c H locs ls Cc hR hS hL
  obtain ⟨hx, hb, hml, hrt, hlk, hown, hnm, hts, hK, hN, hX⟩ := id Cc
  have hNa := (hR.2 a _ ha).1
  refine W.iast hx hb (hR.2 a _ ha).2 ((hK.1.2 0 _ rfl).1 N (fun j => .int (f j))) (fun q => by cases q) (by show ¬ (j < 0 ∨ (arrV _ _ _).slots.size ≤ _); rw [arrV_size]; exact hj) rfl rfl hd fun H1 e1 z oq => ?_
  refine kk p e s m args below meth c H1 _ ls Cc (hR.put hNa ?_ z oq) (hS.put z oq hNa) hL
  show H1[a]? = some (vp_cell _ _)
  rw [e1]
  show some ((vp_cell _ (N, .inl f)).setSlot _ _) = _
  rw [vp_cell_i, vp_cell_i, arrV_store]
  congr 2
  funext q
  by_cases hq : q = j.toNatClampNeg
  · subst hq
    simp [updV, upd]
  · simp [updV, upd, hq]
theorem R_zast {a N : Nat} {f : Nat → Int32} {j x : Int32} (hd : decode cc pc = .ok (.bastore, 1)) (ha : h.2 a = some (.inl (1, N, .inl f))) (hj : vp_in j N) (kk : Run l D cA N0 own cc nL ret nm R X F (hput h a (.inl (1, N, .inl (upd f j.toNatClampNeg (vp_nar .boolean x))))) k n (pc + 1) L (st)) : Run l D cA N0 own cc nL ret nm R X F h k n (pc) L (.int x :: .int j :: .ref a :: st) := by
  intro p e s m args below meth c H locs ls Cc hR hS hL
  obtain ⟨hx, hb, hml, hrt, hlk, hown, hnm, hts, hK, hN, hX⟩ := id Cc
  have hNa := (hR.2 a _ ha).1
  refine W.zast hx hb (hR.2 a _ ha).2 ((hK.1.2 1 _ rfl).1 N (fun j => .int (f j))) (fun q => by cases q) (by show ¬ (j < 0 ∨ (arrV _ _ _).slots.size ≤ _); rw [arrV_size]; exact hj) rfl rfl hd fun H1 e1 z oq => ?_
  refine kk p e s m args below meth c H1 _ ls Cc (hR.put hNa ?_ z oq) (hS.put z oq hNa) hL
  show H1[a]? = some (vp_cell _ _)
  rw [e1]
  show some ((vp_cell _ (N, .inl f)).setSlot _ _) = _
  rw [vp_cell_i, vp_cell_i, arrV_store]
  congr 2
  funext q
  by_cases hq : q = j.toNatClampNeg
  · subst hq
    simp [updV, upd, vp_nar]
    try rfl
  · simp [updV, upd, hq]
theorem R_aast2 {a N v : Nat} {f : Nat → Option Nat} {fs : List Value} {j : Int32} (hd : decode cc pc = .ok (.aastore, 1)) (ha : h.2 a = some (.inl (2, N, .inr (.inr (.inr (.inr f)))))) (hj : vp_in j N) (hv : h.2 v = some (.inr (5, fs))) (kk : Run l D cA N0 own cc nL ret nm R X F (hput h a (.inl (2, N, .inr (.inr (.inr (.inr (va_up f j.toNatClampNeg (some v)))))))) k n (pc + 1) L (st)) : Run l D cA N0 own cc nL ret nm R X F h k n (pc) L (.ref v :: .int j :: .ref a :: st) := by
  intro p e s m args below meth c H locs ls Cc hR hS hL
  obtain ⟨hx, hb, hml, hrt, hlk, hown, hnm, hts, hK, hN, hX⟩ := id Cc
  have hNa := (hR.2 a _ ha).1
  have hlt : j.toNatClampNeg < N := Nat.not_le.mp fun q => hj (Or.inr q)
  have h0 : ¬ j < 0 := fun q => hj (Or.inl q)
  obtain ⟨-, r', hr', cellV, g1, g2, g3, -⟩ := hR.2 v _ hv
  have hcls := (hK.1.1 5 _ rfl).2
  obtain ⟨kA, comp, k1, k2, k3, -⟩ := (hK.1.2 2 _ rfl).2
  have hcomp : comp = D.1 5 := Option.some.inj (k3.symm.trans hcls.1)
  subst hcomp
  obtain ⟨kC, hkC, -⟩ := hcls.2
  refine W.aast hx hb (hR.2 a _ ha).2 (fun q h => by cases h) (fun h => by cases h) k1 k2 rfl hkC ⟨h0, by show _ < (arrV _ _ _).slots.size; rw [arrV_size]; exact hlt⟩ g1 (fun q h => by rw [g3] at h; cases h) (by rw [g2]; exact hkC) (by rw [g2]; exact va_assign hcls) rfl rfl hd fun H1 e1 z oq => ?_
  refine kk p e s m args below meth c H1 _ ls Cc (hR.put hNa ?_ z oq) (hS.put z oq hNa) hL
  show H1[a]? = some (vp_cell _ _)
  rw [e1]
  show some ((vp_cell _ (N, .inr (.inr (.inr (.inr f))))).setSlot _ _) = _
  rw [vp_cell_q, vp_cell_q, arrV_store]
  congr 2
  funext q
  by_cases hq : q = j.toNatClampNeg
  · subst hq
    simp [updV, va_up, va_rf]
  · simp [updV, va_up, hq]
theorem R_aast3 {a N v : Nat} {f : Nat → Option Nat} {fs : List Value} {j : Int32} (hd : decode cc pc = .ok (.aastore, 1)) (ha : h.2 a = some (.inl (3, N, .inr (.inr (.inr (.inr f)))))) (hj : vp_in j N) (hv : h.2 v = some (.inr (6, fs))) (kk : Run l D cA N0 own cc nL ret nm R X F (hput h a (.inl (3, N, .inr (.inr (.inr (.inr (va_up f j.toNatClampNeg (some v)))))))) k n (pc + 1) L (st)) : Run l D cA N0 own cc nL ret nm R X F h k n (pc) L (.ref v :: .int j :: .ref a :: st) := by
  intro p e s m args below meth c H locs ls Cc hR hS hL
  obtain ⟨hx, hb, hml, hrt, hlk, hown, hnm, hts, hK, hN, hX⟩ := id Cc
  have hNa := (hR.2 a _ ha).1
  have hlt : j.toNatClampNeg < N := Nat.not_le.mp fun q => hj (Or.inr q)
  have h0 : ¬ j < 0 := fun q => hj (Or.inl q)
  obtain ⟨-, r', hr', cellV, g1, g2, g3, -⟩ := hR.2 v _ hv
  have hcls := (hK.1.1 6 _ rfl).2
  obtain ⟨kA, comp, k1, k2, k3, -⟩ := (hK.1.2 3 _ rfl).2
  have hcomp : comp = D.1 6 := Option.some.inj (k3.symm.trans hcls.1)
  subst hcomp
  obtain ⟨kC, hkC, -⟩ := hcls.2
  refine W.aast hx hb (hR.2 a _ ha).2 (fun q h => by cases h) (fun h => by cases h) k1 k2 rfl hkC ⟨h0, by show _ < (arrV _ _ _).slots.size; rw [arrV_size]; exact hlt⟩ g1 (fun q h => by rw [g3] at h; cases h) (by rw [g2]; exact hkC) (by rw [g2]; exact va_assign hcls) rfl rfl hd fun H1 e1 z oq => ?_
  refine kk p e s m args below meth c H1 _ ls Cc (hR.put hNa ?_ z oq) (hS.put z oq hNa) hL
  show H1[a]? = some (vp_cell _ _)
  rw [e1]
  show some ((vp_cell _ (N, .inr (.inr (.inr (.inr f))))).setSlot _ _) = _
  rw [vp_cell_q, vp_cell_q, arrV_store]
  congr 2
  funext q
  by_cases hq : q = j.toNatClampNeg
  · subst hq
    simp [updV, va_up, va_rf]
  · simp [updV, va_up, hq]
theorem vsp {N0 : Nat} {H0 H H1 : Heap} {locs : List Loc} (hS : va_S (fun q => N0 ≤ q) H0 H locs) (z : H1.size = H.size + 1) (o1 : ∀ q : Nat, q < H.size → H1[q]? = H[q]?) : va_S (fun q => N0 ≤ q) H0 H1 locs :=
  ⟨Nat.le_trans hS.1 (by omega), fun x h1 h2 => (o1 x (Nat.lt_of_lt_of_le h1 hS.1)).trans (hS.2.1 x h1 h2), hS.2.2⟩
theorem R_new {C : String} {T : u_T} {N ci idx : Nat} {fs : List Value} {ty : Nat → FieldType} (hd : decode cc pc = .ok (.new idx, 3)) (hw1 : Cond.classLink own idx C ∈ WSa) (hw2 : Cond.instantiable C N ∈ WSa) (hw3 : Cond.initialized C ∈ WSa) (hc : vwCl[ci]? = some (C, T, N)) (hin : ∀ w ∈ u_ws C T N, w ∈ WSa) (hty : ∀ j, j < N → parseFieldDescriptor (T j).2.2.1 = some (ty j)) (hfs : ∀ j, j < N → defaultValue (ty j) = vp_V fs j) (hcells : k + 1 ≤ R.cells) (hslots : n + N ≤ R.slots) (kk : Run l D cA N0 own cc nL ret nm R X F (hnew h (.inr (ci, fs))) (k + 1) (n + N) (pc + 3) L (.ref h.1 :: st)) : Run l D cA N0 own cc nL ret nm R X F h k n (pc) L (st) := by
  intro p e s m args below meth c H locs ls Cc hR hS hL
  obtain ⟨hx, hb, hml, hrt, hlk, hown, hnm, hts, hK, hN, hX⟩ := id Cc
  have hKn := hK.1.1 ci _ hc
  refine W.newcK hx hb hown (hts _ hw1) (hts _ hw2) (hts _ hw3) rfl hd hcells hslots hKn.2.1 rfl fun H1 kC hkC e1 z1 o1 => ?_
  have hz : H.size = h.1 := hR.1
  have hq := kk p e s m args below meth c H1 locs ls Cc (hR.new (Nat.le_trans hN hS.1) ⟨_, hc, (u_born ty hts hin hKn hkC e1 hty).to hfs⟩ z1 o1) (vsp hS z1 o1) hL
  rw [← hz] at hq
  exact hq
theorem R_newi {x : Int32} {N : Nat} (hd : decode cc pc = .ok (.newarray .int, 2)) (hw : Cond.arrayClass .int ∈ WSa) (hn : ¬ x < 0) (hNx : x.toNatClampNeg = N) (hby : N * componentBytes .int ≤ 536870912) (hcells : k + 1 ≤ R.cells) (hslots : n + N ≤ R.slots) (kk : Run l D cA N0 own cc nL ret nm R X F (hnew h (.inl (0, N, .inl (fun _ => 0)))) (k + 1) (n + N) (pc + 2) L (.ref h.1 :: st)) : Run l D cA N0 own cc nL ret nm R X F h k n (pc) L (.int x :: st) := by
  intro p e s m args below meth c H locs ls Cc hR hS hL
  obtain ⟨hx, hb, hml, hrt, hlk, hown, hnm, hts, hK, hN, hX⟩ := id Cc
  refine va_newaK (atype := .int) hx hb (hts _ hw) rfl hd rfl hn hNx hby hcells hslots rfl fun H1 cA1 e1 z1 o1 hAr hNm => ?_
  have hz : H.size = h.1 := hR.1
  have hRA := (hK.1.2 0 _ rfl).2
  have hcA : cA1 = cA 0 := Option.some.inj (hNm.symm.trans hRA)
  subst hcA
  have hq := kk p e s m args below meth c H1 locs ls Cc (hR.new (Nat.le_trans hN hS.1) (by show H1[H.size]? = some (vp_cell _ _); rw [e1]; rfl) z1 o1) (vsp hS z1 o1) hL
  rw [← hz] at hq
  exact hq
theorem R_newz {x : Int32} {N : Nat} (hd : decode cc pc = .ok (.newarray .boolean, 2)) (hw : Cond.arrayClass .boolean ∈ WSa) (hn : ¬ x < 0) (hNx : x.toNatClampNeg = N) (hby : N * componentBytes .boolean ≤ 536870912) (hcells : k + 1 ≤ R.cells) (hslots : n + N ≤ R.slots) (kk : Run l D cA N0 own cc nL ret nm R X F (hnew h (.inl (1, N, .inl (fun _ => 0)))) (k + 1) (n + N) (pc + 2) L (.ref h.1 :: st)) : Run l D cA N0 own cc nL ret nm R X F h k n (pc) L (.int x :: st) := by
  intro p e s m args below meth c H locs ls Cc hR hS hL
  obtain ⟨hx, hb, hml, hrt, hlk, hown, hnm, hts, hK, hN, hX⟩ := id Cc
  refine va_newaK (atype := .boolean) hx hb (hts _ hw) rfl hd rfl hn hNx hby hcells hslots rfl fun H1 cA1 e1 z1 o1 hAr hNm => ?_
  have hz : H.size = h.1 := hR.1
  have hRA := (hK.1.2 1 _ rfl).2
  have hcA : cA1 = cA 1 := Option.some.inj (hNm.symm.trans hRA)
  subst hcA
  have hq := kk p e s m args below meth c H1 locs ls Cc (hR.new (Nat.le_trans hN hS.1) (by show H1[H.size]? = some (vp_cell _ _); rw [e1]; rfl) z1 o1) (vsp hS z1 o1) hL
  rw [← hz] at hq
  exact hq
theorem R_newq2 {x : Int32} {N idx : Nat} (hd : decode cc pc = .ok (.anewarray idx, 3)) (hw : Cond.classLink own idx RX7 ∈ WSa) (hn : ¬ x < 0) (hNx : x.toNatClampNeg = N) (hby : N * 4 ≤ 536870912) (hcells : k + 1 ≤ R.cells) (hslots : n + N ≤ R.slots) (kk : Run l D cA N0 own cc nL ret nm R X F (hnew h (.inl (2, N, .inr (.inr (.inr (.inr (fun _ => none))))))) (k + 1) (n + N) (pc + 3) L (.ref h.1 :: st)) : Run l D cA N0 own cc nL ret nm R X F h k n (pc) L (.int x :: st) := by
  intro p e s m args below meth c H locs ls Cc hR hS hL
  obtain ⟨hx, hb, hml, hrt, hlk, hown, hnm, hts, hK, hN, hX⟩ := id Cc
  subst hNx
  refine W.anew hx hb hown (hts _ hw) (va_AO.use hK.2.2.2.2.2.2.1) rfl hd rfl hn hby hcells hslots fun cA1 kA comp f1 f2 f3 f4 => ?_
  generalize hH1 : H.push ({ cls := cA1, slots := Array.replicate x.toNatClampNeg .null, vm := .none } : Cell) = H1
  have z1 : H1.size = H.size + 1 := by rw [← hH1, Array.size_push]
  have e1 : H1[H.size]? = some (arrV cA1 x.toNatClampNeg (fun _ => .null)) := by rw [← hH1, Array.getElem?_push_size, ← arrV_new]
  have o1 : ∀ q : Nat, q < H.size → H1[q]? = H[q]? := fun q hq => by rw [← hH1, Array.getElem?_push, if_neg (Nat.ne_of_lt hq)]
  have hz : H.size = h.1 := hR.1
  obtain ⟨kA2, comp2, g1, g2, g3, g4⟩ := (hK.1.2 2 _ rfl).2
  have hcA : cA1 = cA 2 := Option.some.inj (f1.symm.trans g4)
  subst hcA
  have hq := kk p e s m args below meth c H1 locs ls Cc (hR.new (Nat.le_trans hN hS.1) (by show H1[H.size]? = some (vp_cell _ _); rw [e1]; rfl) z1 o1) (vsp hS z1 o1) hL
  rw [← hz] at hq
  exact hq
theorem R_newq3 {x : Int32} {N idx : Nat} (hd : decode cc pc = .ok (.anewarray idx, 3)) (hw : Cond.classLink own idx RX8 ∈ WSa) (hn : ¬ x < 0) (hNx : x.toNatClampNeg = N) (hby : N * 4 ≤ 536870912) (hcells : k + 1 ≤ R.cells) (hslots : n + N ≤ R.slots) (kk : Run l D cA N0 own cc nL ret nm R X F (hnew h (.inl (3, N, .inr (.inr (.inr (.inr (fun _ => none))))))) (k + 1) (n + N) (pc + 3) L (.ref h.1 :: st)) : Run l D cA N0 own cc nL ret nm R X F h k n (pc) L (.int x :: st) := by
  intro p e s m args below meth c H locs ls Cc hR hS hL
  obtain ⟨hx, hb, hml, hrt, hlk, hown, hnm, hts, hK, hN, hX⟩ := id Cc
  subst hNx
  refine W.anew hx hb hown (hts _ hw) (va_AO.use hK.2.2.2.2.2.2.2) rfl hd rfl hn hby hcells hslots fun cA1 kA comp f1 f2 f3 f4 => ?_
  generalize hH1 : H.push ({ cls := cA1, slots := Array.replicate x.toNatClampNeg .null, vm := .none } : Cell) = H1
  have z1 : H1.size = H.size + 1 := by rw [← hH1, Array.size_push]
  have e1 : H1[H.size]? = some (arrV cA1 x.toNatClampNeg (fun _ => .null)) := by rw [← hH1, Array.getElem?_push_size, ← arrV_new]
  have o1 : ∀ q : Nat, q < H.size → H1[q]? = H[q]? := fun q hq => by rw [← hH1, Array.getElem?_push, if_neg (Nat.ne_of_lt hq)]
  have hz : H.size = h.1 := hR.1
  obtain ⟨kA2, comp2, g1, g2, g3, g4⟩ := (hK.1.2 3 _ rfl).2
  have hcA : cA1 = cA 3 := Option.some.inj (f1.symm.trans g4)
  subst hcA
  have hq := kk p e s m args below meth c H1 locs ls Cc (hR.new (Nat.le_trans hN hS.1) (by show H1[H.size]? = some (vp_cell _ _); rw [e1]; rfl) z1 o1) (vsp hS z1 o1) hL
  rw [← hz] at hq
  exact hq
theorem R_objInit {a idx : Nat} (hd : decode cc pc = .ok (.invokespecial idx, 3)) (hw : Cond.methodLink own idx objectInit ∈ WSa) (hi : Cond.instanceMethod objectInit ∈ WSa) (hcd : Cond.code objectInit ⟨#[0xb1]⟩ 1 none ∈ WSa) (hn : L.length = nL) (hf : 1 ≤ R.frames) (hlo : (st.map fun v => v.category).sum + 12 ≤ R.locals) (kk : Run l D cA N0 own cc nL ret nm R X F h k n (pc + 3) L (st)) : Run l D cA N0 own cc nL ret nm R X F h k n (pc) L (.ref a :: st) := by
  intro p e s m args below meth c H locs ls Cc hR hS hL
  obtain ⟨hx, hb, hml, hrt, hlk, hown, hnm, hts, hK, hN, hX⟩ := id Cc
  exact W.objInit hx hb hown (hts _ hw) (hts _ hi) (hts _ hcd) rfl (by rw [hml]; exact hL.1) rfl hd hf (by show 2 * 0 + _ + 12 ≤ _; omega) (kk p e s m args below meth c H locs ls Cc hR hS hL)
theorem R_copy {a0 a1 n0 n1 idx : Nat} {f g : Nat → Int32} {sp dp z : Int32} (hd : decode cc pc = .ok (.invokestatic idx, 3)) (hw1 : Cond.methodLink own idx arraycopyName ∈ WSa) (hw2 : Cond.native arraycopyName ∈ WSa) (hw3 : Cond.static arraycopyName ∈ WSa) (hw4 : Cond.initialized "java/lang/System" ∈ WSa) (h0 : h.2 a0 = some (.inl (0, n0, .inl f))) (h1 : h.2 a1 = some (.inl (0, n1, .inl g))) (hne : a0 ≠ a1) (g1 : ¬ sp < 0) (g2 : ¬ dp < 0) (g3 : ¬ z < 0) (g4 : sp.toNatClampNeg + z.toNatClampNeg ≤ n0) (g5 : dp.toNatClampNeg + z.toNatClampNeg ≤ n1) (hf : 1 ≤ R.frames) (hlo : (st.map fun v => v.category).sum + (nativeFrameWords "java/lang/System" "arraycopy" 5 + 11) ≤ R.locals) (kk : Run l D cA N0 own cc nL ret nm R X F (hput h a1 (.inl (0, n1, .inl (va_cpy f g sp.toNatClampNeg dp.toNatClampNeg z.toNatClampNeg)))) k n (pc + 3) L (st)) : Run l D cA N0 own cc nL ret nm R X F h k n (pc) L (.int z :: .int dp :: .ref a1 :: .int sp :: .ref a0 :: st) := by
  intro p e s m args below meth c H locs ls Cc hR hS hL
  obtain ⟨hx, hb, hml, hrt, hlk, hown, hnm, hts, hK, hN, hX⟩ := id Cc
  have hNa := (hR.2 a1 _ h1).1
  have nn : ∀ z : Int32, ¬ z < 0 → z.toInt = (z.toNatClampNeg : Int) := by
    intro z hz
    have hz0 : (0 : Int) ≤ z.toInt := by
      have := Int32.not_lt.mp hz
      simpa using Int32.le_iff_toInt_le.mp this
    show z.toInt = ((z.toInt.toNat : Nat) : Int)
    omega
  intro T hT XX
  have hc0 : H[a0]? = some (vp_cell (cA 0) (n0, .inl f)) := (hR.2 a0 _ h0).2
  have hc1 : H[a1]? = some (vp_cell (cA 0) (n1, .inl g)) := (hR.2 a1 _ h1).2
  obtain ⟨-, k0, hk0, cm0, hkk0⟩ := (hK.1.2 0 _ rfl).1 n0 (fun j => .int (f j))
  obtain ⟨-, k1, hk1, cm1, hkk1⟩ := (hK.1.2 0 _ rfl).1 n1 (fun j => .int (g j))
  obtain ⟨vm', X', step⟩ := XX.arraycopy hx hown (hts _ hw1) (hts _ hw2) (hts _ hw3) (hts _ hw4) (src := a0) (dst := a1) (cs := vp_cell (cA 0) (n0, .inl f)) (cd := vp_cell (cA 0) (n1, .inl g)) (srcPos := sp) (destPos := dp) (n := z) (by rw [hT]; exact hc0) (by rw [hT]; exact hc1)
    (fun _ h => by cases h) (fun _ h => by cases h) (fun h => by cases h) (fun h => by cases h) hk0 hk1 hkk0 hkk1 (by simp [refKind]) g1 g2 g3
    (by rw [nn sp g1, nn z g3]; show ¬ _ > ((arrV (cA 0) n0 (fun j => .int (f j))).slots.size : Int); rw [arrV_size]; omega)
    (by rw [nn dp g2, nn z g3]; show ¬ _ > ((arrV (cA 0) n1 (fun j => .int (g j))).slots.size : Int); rw [arrV_size]; omega)
    (fun vm₁ _ i hi => by
      have e : (vp_cell (cA 0) (n0, .inl f)).slots.getD (sp.toNatClampNeg + i) .null = .int (f (sp.toNatClampNeg + i)) := by
        show (arrV (cA 0) n0 (fun j => .int (f j))).slots.getD _ _ = _
        rw [Array.getD_eq_getD_getElem?, arrV_read _ _ (by omega)]
        rfl
      refine ⟨?_, ?_⟩
      · rw [e]
        rfl
      · rw [e]
        exact trivial)
    (g := F0 m pc ls (.int z :: .int dp :: .ref a1 :: .int sp :: .ref a0 :: st)) rfl (by rw [hml]; exact hL.1) (rest := st) rfl (by rw [hb]; exact hd) hf (by show 2 * 0 + _ + _ ≤ _; omega)
  have e1 : copied (vp_cell (cA 0) (n0, .inl f)) (vp_cell (cA 0) (n1, .inl g)) sp dp z = vp_cell (cA 0) (n1, .inl (va_cpy f g sp.toNatClampNeg dp.toNatClampNeg z.toNatClampNeg)) := va_copied (fun z => .int z) (cA 0) (cA 0) f g g4
  rw [e1] at X' step
  have hl : a1 < H.size := (Array.getElem?_eq_some_iff.mp hc1).1
  have hheap : ((T.setVm vm').setCell a1 (vp_cell (cA 0) (n1, .inl (va_cpy f g sp.toNatClampNeg dp.toNatClampNeg z.toNatClampNeg)))).heap = H.setIfInBounds a1 (vp_cell (cA 0) (n1, .inl (va_cpy f g sp.toNatClampNeg dp.toNatClampNeg z.toNatClampNeg))) := by rw [← hT]; rfl
  have oq : ∀ q : Nat, q ≠ a1 → (H.setIfInBounds a1 (vp_cell (cA 0) (n1, .inl (va_cpy f g sp.toNatClampNeg dp.toNatClampNeg z.toNatClampNeg))))[q]? = H[q]? := fun q hq => by simp [Array.getElem?_setIfInBounds, Ne.symm hq]
  obtain ⟨t, b1, b2⟩ := kk p e s m args below meth c _ _ ls Cc (hR.put hNa (show (H.setIfInBounds a1 _)[a1]? = some _ by simp [Array.getElem?_setIfInBounds, hl]) (by simp) oq) ⟨by simp; exact hS.1, fun q q1 q2 => by
      rw [oq q (fun e => q2 (by rw [e]; exact hNa))]
      exact hS.2.1 q q1 q2, fun q hq => by
      rcases List.mem_append.mp hq with h | h
      · exact hS.2.2 q h
      · obtain ⟨y, -, hy⟩ := List.mem_map.mp h
        rw [← hy]
        exact hNa⟩ hL _ hheap X'
  exact ⟨t, step t b1, b2⟩
end RR
end
section
/-! CALLS AND RETURNS of the judgement Run -/
section RC
variable {l : Launch} {D : va_G} {cA : Nat → ClassId} {N0 : Nat} {own : String} {cc : ByteArray} {nL : Nat} {ret : Option FieldType} {nm : String} {R : Room} {X : State → Prop} {F : List Frame → Array Value → State → State → Prop} {h : AH} {k n pc : Nat} {L : List (Option Value)} {st : List Value}
/-- what the tables say of a method that is called -/
def Cal (M : MI) (np : Nat) : Prop := (M.1.cls ≠ "java/lang/invoke/MethodHandle" ∧ M.1.cls ≠ "java/lang/invoke/VarHandle" ∧ (parseMethodDescriptor M.1.desc).map (fun d => d.parameters.length) = some np) ∧ Cond.code M.1 M.2.1 M.2.2.1 M.2.2.2 ∈ WSa ∧ Cond.initialized M.1.cls ∈ WSa
theorem wsa_sub {w : Cond} (hw : w ∈ WSa) : GoodIn WSa (w :: WSa) := fun v hv => (List.mem_cons.mp hv).elim (fun e => by rw [e]; exact ⟨hw, good_of_word (List.mem_filter.mp hw).2⟩) (fun q => ⟨q, good_of_word (List.mem_filter.mp q).2⟩)
abbrev Rm (R : Room) (k n d mc ms mL : Nat) : Prop := (d + 1 ≤ R.frames ∧ 8 + (mL + 11) + 36 * d ≤ R.locals) ∧ k + mc ≤ R.cells ∧ n + ms ≤ R.slots
theorem pre_blind {D : va_G} {cA : Nat → ClassId} {N0 : Nat} {h : AH} {av : List Value} : FrameBlind (va_Pc av (fun U => Rh D cA N0 h U.heap ∧ KK D cA U ∧ N0 ≤ U.heap.size)) := fun a U g mk q => ⟨q.1, q.2.1, KK.same (s := U) (U := U.calling g mk a) rfl q.2.2.1, q.2.2.2⟩
/-- a call's run goes on in Run -/
theorem R_back {M : MI} {mc ms : Nat} {st0 rest av : List Value} {post : Option Value → AH → Prop}
    (kk : ∀ (r : Option Value) (h' : AH), post r h' → Run l D cA N0 own cc nL ret nm R X F h' (k + mc) (n + ms) (pc + 3) L (r.toList ++ rest))
    {p : Program} {e : Env} {s : State} {m : MethodId} {args : Array Value} {below : List Frame} {meth : Method} {c : Code} {H : Heap} {locs : List Loc} {ls : Array Slot} (C : Cx D cA N0 own cc nL ret nm X p s m args meth c) (hR : Rh D cA N0 h H) (hS : va_S (fun q => N0 ≤ q) s.heap H locs) (hL : LH ls nL L)
    (hr : va_Run p l e R s m args below meth c H locs k n mc ms (F0 m pc ls st0) rest (Qg D cA N0 post av.toArray) (fun q => N0 ≤ q)) : W p l e R s m args below meth c H locs k n (F below args s) (F0 m pc ls st0) := by
  intro T hT XX
  obtain ⟨v, st₀, t, T', Lc, h0, X', hLc, e1, e2, ⟨⟨r, h', hv, hp, hRh⟩, hz, hk⟩, stp⟩ := hr T hT XX
  cases hv
  rw [h0] at hz hk
  obtain ⟨t2, a1, b1⟩ := kk v h' hp p e s m args below meth c T'.heap (locs ++ Lc) ls C (by rw [e1]; exact hRh)
    ⟨Nat.le_trans hS.1 (by rw [e1]; exact hz), fun q h1 h2 => by rw [e1, hk q (Nat.lt_of_lt_of_le h1 hS.1) h2]; exact hS.2.1 q h1 h2, fun q hq => by
      rcases List.mem_append.mp hq with h | h
      · exact hS.2.2 q h
      · exact hLc q h⟩ hL T' rfl X'
  exact ⟨t2, stp t2 a1, b1⟩
theorem R_callVG {M : MI} {np idx ci N d mc ms : Nat} {a : Nat} {As fs : List Value} {T : u_T} {post : Option Value → AH → Prop} (hcal : Cal M np) (hlink : Cond.methodLink own idx M.1 ∈ WSa) (hins : Cond.instanceMethod M.1 ∈ WSa) (hsel : Cond.selects M.1.cls M.1 M.1 ∈ WSa) (hd : decode cc pc = .ok (.invokevirtual idx, 3)) (hsp : Spec l D cA N0 M d mc ms (.ref a :: As) h post) (hn : As.length = np) (hrm : Rm R k n d mc ms M.2.2.1) (hcat : (st.map fun v => v.category).sum ≤ 8) (hc : vwCl[ci]? = some (M.1.cls, T, N)) (ha : h.2 a = some (.inr (ci, fs)))
    (kk : ∀ (r : Option Value) (h' : AH), post r h' → Run l D cA N0 own cc nL ret nm R X F h' (k + mc) (n + ms) (pc + 3) L (r.toList ++ st)) : Run l D cA N0 own cc nL ret nm R X F h k n pc L (As.reverse ++ .ref a :: st) := by
  intro p e s m args below meth c H locs ls C hR hS hL
  obtain ⟨hx, hb, hml, hrt, hlk, hown, hnm, hts, hK, hN, hX⟩ := id C
  obtain ⟨hy, hcode, hini⟩ := hcal
  have hG := wsa_sub hcode
  refine R_back (M := M) kk C hR hS hL (va_runV (As := As) (rest := st) ⟨hx, hb, hml, hown, hts⟩ hsp ⟨callB_of np hts hG rfl rfl rfl (hts _ hini) (hts _ hlink) hy hrm.1, hts _ hins, hts _ hsel⟩ ⟨pre_blind, va_recv (q0 := 0) hK.1 (hR.one ha) hc rfl, fun U hU hW => ⟨rfl, by rw [hU]; exact hR, hK.warm hW, by rw [hU]; exact Nat.le_trans hN hS.1⟩⟩ rfl hn hL.1 rfl (lv_room hcat) hd hrm.2)
theorem R_callSG {M : MI} {np idx d mc ms : Nat} {As : List Value} {post : Option Value → AH → Prop} (hcal : Cal M np) (hlink : Cond.methodLink own idx M.1 ∈ WSa) (hst : Cond.static M.1 ∈ WSa) (hd : decode cc pc = .ok (.invokestatic idx, 3)) (hsp : Spec l D cA N0 M d mc ms As h post) (hn : As.length = np) (hrm : Rm R k n d mc ms M.2.2.1) (hcat : (st.map fun v => v.category).sum ≤ 8)
    (kk : ∀ (r : Option Value) (h' : AH), post r h' → Run l D cA N0 own cc nL ret nm R X F h' (k + mc) (n + ms) (pc + 3) L (r.toList ++ st)) : Run l D cA N0 own cc nL ret nm R X F h k n pc L (As.reverse ++ st) := by
  intro p e s m args below meth c H locs ls C hR hS hL
  obtain ⟨hx, hb, hml, hrt, hlk, hown, hnm, hts, hK, hN, hX⟩ := id C
  obtain ⟨hy, hcode, hini⟩ := hcal
  have hG := wsa_sub hcode
  refine R_back (M := M) kk C hR hS hL (va_runS (As := As) (rest := st) ⟨hx, hb, hml, hown, hts⟩ hsp ⟨callB_of np hts hG rfl rfl rfl (hts _ hini) (hts _ hlink) hy hrm.1, hts _ hst⟩ ⟨pre_blind, fun U hU hW => ⟨rfl, by rw [hU]; exact hR, hK.warm hW, by rw [hU]; exact Nat.le_trans hN hS.1⟩⟩ rfl hn hL.1 rfl (lv_room hcat) hd hrm.2)
theorem R_callIG {M : MI} {np idx d mc ms : Nat} {a : Nat} {As : List Value} {post : Option Value → AH → Prop} (hcal : Cal M np) (hlink : Cond.methodLink own idx M.1 ∈ WSa) (hins : Cond.instanceMethod M.1 ∈ WSa) (hret : M.2.2.2 = none) (hini1 : M.1.name = "<init>") (hd : decode cc pc = .ok (.invokespecial idx, 3)) (hsp : Spec l D cA N0 M d mc ms (.ref a :: As) h post) (hn : As.length = np) (hrm : Rm R k n d mc ms M.2.2.1) (hcat : (st.map fun v => v.category).sum ≤ 8)
    (kk : ∀ (r : Option Value) (h' : AH), post r h' → Run l D cA N0 own cc nL ret nm R X F h' (k + mc) (n + ms) (pc + 3) L (r.toList ++ st)) : Run l D cA N0 own cc nL ret nm R X F h k n pc L (As.reverse ++ .ref a :: st) := by
  intro p e s m args below meth c H locs ls C hR hS hL
  obtain ⟨hx, hb, hml, hrt, hlk, hown, hnm, hts, hK, hN, hX⟩ := id C
  obtain ⟨y, bytes, maxL, rt⟩ := M
  cases hret
  obtain ⟨hy, hcode, hini⟩ := hcal
  have hG := wsa_sub hcode
  refine R_back (M := (y, bytes, maxL, none)) kk C hR hS hL (va_runI (As := As) (rest := st) ⟨hx, hb, hml, hown, hts⟩ hsp ⟨callB_of np hts hG rfl rfl rfl (hts _ hini) (hts _ hlink) hy hrm.1, hini1, hts _ hins⟩ ⟨pre_blind, fun U hU hW => ⟨rfl, by rw [hU]; exact hR, hK.warm hW, by rw [hU]; exact Nat.le_trans hN hS.1⟩⟩ rfl hn hL.1 rfl (lv_room hcat) hd hrm.2)
theorem R_callNG {M : MI} {np idx d mc ms : Nat} {a : Nat} {host : String} {As : List Value} {post : Option Value → AH → Prop} (hcal : Cal M np) (hlink : ∀ U : State, Nst U → va_Nw (.methodLinkNest own idx M.1 host) U) (hins : Cond.instanceMethod M.1 ∈ WSa) (hret : M.2.2.2 = none) (hini1 : M.1.name = "<init>") (hd : decode cc pc = .ok (.invokespecial idx, 3)) (hsp : Spec l D cA N0 M d mc ms (.ref a :: As) h post) (hn : As.length = np) (hrm : Rm R k n d mc ms M.2.2.1) (hcat : (st.map fun v => v.category).sum ≤ 8)
    (kk : ∀ (r : Option Value) (h' : AH), post r h' → Run l D cA N0 own cc nL ret nm R X F h' (k + mc) (n + ms) (pc + 3) L (r.toList ++ st)) : Run l D cA N0 own cc nL ret nm R X F h k n pc L (As.reverse ++ .ref a :: st) := by
  intro p e s m args below meth c H locs ls C hR hS hL
  obtain ⟨hx, hb, hml, hrt, hlk, hown, hnm, hts, hK, hN, hX⟩ := id C
  obtain ⟨y, bytes, maxL, rt⟩ := M
  cases hret
  obtain ⟨hy, hcode, hini⟩ := hcal
  have hG := wsa_sub hcode
  refine R_back (M := (y, bytes, maxL, none)) kk C hR hS hL (va_runIN (host := host) (As := As) (rest := st) ⟨hx, hb, hml, hown, hts⟩ hsp ⟨va_cnB np hts hG rfl rfl rfl (hlink s hK.2) (hts _ hini) hy hrm.1, hini1, hts _ hins⟩ ⟨pre_blind, fun U hU hW => ⟨rfl, by rw [hU]; exact hR, hK.warm hW, by rw [hU]; exact Nat.le_trans hN hS.1⟩⟩ rfl hn hL.1 rfl (lv_room hcat) hd hrm.2)
theorem R_callV0 {M : MI} {idx ci N d mc ms : Nat} {a : Nat} {fs : List Value} {T : u_T} {post : Option Value → AH → Prop} (hcal : Cal M 0) (hlink : Cond.methodLink own idx M.1 ∈ WSa) (hins : Cond.instanceMethod M.1 ∈ WSa) (hsel : Cond.selects M.1.cls M.1 M.1 ∈ WSa) (hd : decode cc pc = .ok (.invokevirtual idx, 3)) (hsp : Spec l D cA N0 M d mc ms (.ref a :: []) h post) (hrm : Rm R k n d mc ms M.2.2.1) (hcat : (st.map fun v => v.category).sum ≤ 8) (hc : vwCl[ci]? = some (M.1.cls, T, N)) (ha : h.2 a = some (.inr (ci, fs)))
    (kk : ∀ (r : Option Value) (h' : AH), post r h' → Run l D cA N0 own cc nL ret nm R X F h' (k + mc) (n + ms) (pc + 3) L (r.toList ++ st)) : Run l D cA N0 own cc nL ret nm R X F h k n pc L (.ref a :: st) := R_callVG (As := []) hcal hlink hins hsel hd hsp rfl hrm hcat hc ha kk
theorem R_callS0 {M : MI} {idx d mc ms : Nat} {post : Option Value → AH → Prop} (hcal : Cal M 0) (hlink : Cond.methodLink own idx M.1 ∈ WSa) (hst : Cond.static M.1 ∈ WSa) (hd : decode cc pc = .ok (.invokestatic idx, 3)) (hsp : Spec l D cA N0 M d mc ms [] h post) (hrm : Rm R k n d mc ms M.2.2.1) (hcat : (st.map fun v => v.category).sum ≤ 8)
    (kk : ∀ (r : Option Value) (h' : AH), post r h' → Run l D cA N0 own cc nL ret nm R X F h' (k + mc) (n + ms) (pc + 3) L (r.toList ++ st)) : Run l D cA N0 own cc nL ret nm R X F h k n pc L (st) := R_callSG (As := []) hcal hlink hst hd hsp rfl hrm hcat kk
theorem R_callI0 {M : MI} {idx d mc ms : Nat} {a : Nat} {post : Option Value → AH → Prop} (hcal : Cal M 0) (hlink : Cond.methodLink own idx M.1 ∈ WSa) (hins : Cond.instanceMethod M.1 ∈ WSa) (hret : M.2.2.2 = none) (hini1 : M.1.name = "<init>") (hd : decode cc pc = .ok (.invokespecial idx, 3)) (hsp : Spec l D cA N0 M d mc ms (.ref a :: []) h post) (hrm : Rm R k n d mc ms M.2.2.1) (hcat : (st.map fun v => v.category).sum ≤ 8)
    (kk : ∀ (r : Option Value) (h' : AH), post r h' → Run l D cA N0 own cc nL ret nm R X F h' (k + mc) (n + ms) (pc + 3) L (r.toList ++ st)) : Run l D cA N0 own cc nL ret nm R X F h k n pc L (.ref a :: st) := R_callIG (As := []) hcal hlink hins hret hini1 hd hsp rfl hrm hcat kk
theorem R_callN0 {M : MI} {idx d mc ms : Nat} {a : Nat} {host : String} {post : Option Value → AH → Prop} (hcal : Cal M 0) (hlink : ∀ U : State, Nst U → va_Nw (.methodLinkNest own idx M.1 host) U) (hins : Cond.instanceMethod M.1 ∈ WSa) (hret : M.2.2.2 = none) (hini1 : M.1.name = "<init>") (hd : decode cc pc = .ok (.invokespecial idx, 3)) (hsp : Spec l D cA N0 M d mc ms (.ref a :: []) h post) (hrm : Rm R k n d mc ms M.2.2.1) (hcat : (st.map fun v => v.category).sum ≤ 8)
    (kk : ∀ (r : Option Value) (h' : AH), post r h' → Run l D cA N0 own cc nL ret nm R X F h' (k + mc) (n + ms) (pc + 3) L (r.toList ++ st)) : Run l D cA N0 own cc nL ret nm R X F h k n pc L (.ref a :: st) := R_callNG (As := []) hcal hlink hins hret hini1 hd hsp rfl hrm hcat kk
theorem R_callV1 {M : MI} {idx ci N d mc ms : Nat} {a : Nat} {b0 : Value} {fs : List Value} {T : u_T} {post : Option Value → AH → Prop} (hcal : Cal M 1) (hlink : Cond.methodLink own idx M.1 ∈ WSa) (hins : Cond.instanceMethod M.1 ∈ WSa) (hsel : Cond.selects M.1.cls M.1 M.1 ∈ WSa) (hd : decode cc pc = .ok (.invokevirtual idx, 3)) (hsp : Spec l D cA N0 M d mc ms (.ref a :: [b0]) h post) (hrm : Rm R k n d mc ms M.2.2.1) (hcat : (st.map fun v => v.category).sum ≤ 8) (hc : vwCl[ci]? = some (M.1.cls, T, N)) (ha : h.2 a = some (.inr (ci, fs)))
    (kk : ∀ (r : Option Value) (h' : AH), post r h' → Run l D cA N0 own cc nL ret nm R X F h' (k + mc) (n + ms) (pc + 3) L (r.toList ++ st)) : Run l D cA N0 own cc nL ret nm R X F h k n pc L (b0 :: .ref a :: st) := R_callVG (As := [b0]) hcal hlink hins hsel hd hsp rfl hrm hcat hc ha kk
theorem R_callS1 {M : MI} {idx d mc ms : Nat} {b0 : Value} {post : Option Value → AH → Prop} (hcal : Cal M 1) (hlink : Cond.methodLink own idx M.1 ∈ WSa) (hst : Cond.static M.1 ∈ WSa) (hd : decode cc pc = .ok (.invokestatic idx, 3)) (hsp : Spec l D cA N0 M d mc ms [b0] h post) (hrm : Rm R k n d mc ms M.2.2.1) (hcat : (st.map fun v => v.category).sum ≤ 8)
    (kk : ∀ (r : Option Value) (h' : AH), post r h' → Run l D cA N0 own cc nL ret nm R X F h' (k + mc) (n + ms) (pc + 3) L (r.toList ++ st)) : Run l D cA N0 own cc nL ret nm R X F h k n pc L (b0 :: st) := R_callSG (As := [b0]) hcal hlink hst hd hsp rfl hrm hcat kk
theorem R_callI1 {M : MI} {idx d mc ms : Nat} {a : Nat} {b0 : Value} {post : Option Value → AH → Prop} (hcal : Cal M 1) (hlink : Cond.methodLink own idx M.1 ∈ WSa) (hins : Cond.instanceMethod M.1 ∈ WSa) (hret : M.2.2.2 = none) (hini1 : M.1.name = "<init>") (hd : decode cc pc = .ok (.invokespecial idx, 3)) (hsp : Spec l D cA N0 M d mc ms (.ref a :: [b0]) h post) (hrm : Rm R k n d mc ms M.2.2.1) (hcat : (st.map fun v => v.category).sum ≤ 8)
    (kk : ∀ (r : Option Value) (h' : AH), post r h' → Run l D cA N0 own cc nL ret nm R X F h' (k + mc) (n + ms) (pc + 3) L (r.toList ++ st)) : Run l D cA N0 own cc nL ret nm R X F h k n pc L (b0 :: .ref a :: st) := R_callIG (As := [b0]) hcal hlink hins hret hini1 hd hsp rfl hrm hcat kk
theorem R_callN1 {M : MI} {idx d mc ms : Nat} {a : Nat} {host : String} {b0 : Value} {post : Option Value → AH → Prop} (hcal : Cal M 1) (hlink : ∀ U : State, Nst U → va_Nw (.methodLinkNest own idx M.1 host) U) (hins : Cond.instanceMethod M.1 ∈ WSa) (hret : M.2.2.2 = none) (hini1 : M.1.name = "<init>") (hd : decode cc pc = .ok (.invokespecial idx, 3)) (hsp : Spec l D cA N0 M d mc ms (.ref a :: [b0]) h post) (hrm : Rm R k n d mc ms M.2.2.1) (hcat : (st.map fun v => v.category).sum ≤ 8)
    (kk : ∀ (r : Option Value) (h' : AH), post r h' → Run l D cA N0 own cc nL ret nm R X F h' (k + mc) (n + ms) (pc + 3) L (r.toList ++ st)) : Run l D cA N0 own cc nL ret nm R X F h k n pc L (b0 :: .ref a :: st) := R_callNG (As := [b0]) hcal hlink hins hret hini1 hd hsp rfl hrm hcat kk
theorem R_callV2 {M : MI} {idx ci N d mc ms : Nat} {a : Nat} {b0 b1 : Value} {fs : List Value} {T : u_T} {post : Option Value → AH → Prop} (hcal : Cal M 2) (hlink : Cond.methodLink own idx M.1 ∈ WSa) (hins : Cond.instanceMethod M.1 ∈ WSa) (hsel : Cond.selects M.1.cls M.1 M.1 ∈ WSa) (hd : decode cc pc = .ok (.invokevirtual idx, 3)) (hsp : Spec l D cA N0 M d mc ms (.ref a :: [b0, b1]) h post) (hrm : Rm R k n d mc ms M.2.2.1) (hcat : (st.map fun v => v.category).sum ≤ 8) (hc : vwCl[ci]? = some (M.1.cls, T, N)) (ha : h.2 a = some (.inr (ci, fs)))
    (kk : ∀ (r : Option Value) (h' : AH), post r h' → Run l D cA N0 own cc nL ret nm R X F h' (k + mc) (n + ms) (pc + 3) L (r.toList ++ st)) : Run l D cA N0 own cc nL ret nm R X F h k n pc L (b1 :: b0 :: .ref a :: st) := R_callVG (As := [b0, b1]) hcal hlink hins hsel hd hsp rfl hrm hcat hc ha kk
theorem R_callS2 {M : MI} {idx d mc ms : Nat} {b0 b1 : Value} {post : Option Value → AH → Prop} (hcal : Cal M 2) (hlink : Cond.methodLink own idx M.1 ∈ WSa) (hst : Cond.static M.1 ∈ WSa) (hd : decode cc pc = .ok (.invokestatic idx, 3)) (hsp : Spec l D cA N0 M d mc ms [b0, b1] h post) (hrm : Rm R k n d mc ms M.2.2.1) (hcat : (st.map fun v => v.category).sum ≤ 8)
    (kk : ∀ (r : Option Value) (h' : AH), post r h' → Run l D cA N0 own cc nL ret nm R X F h' (k + mc) (n + ms) (pc + 3) L (r.toList ++ st)) : Run l D cA N0 own cc nL ret nm R X F h k n pc L (b1 :: b0 :: st) := R_callSG (As := [b0, b1]) hcal hlink hst hd hsp rfl hrm hcat kk
theorem R_callV3 {M : MI} {idx ci N d mc ms : Nat} {a : Nat} {b0 b1 b2 : Value} {fs : List Value} {T : u_T} {post : Option Value → AH → Prop} (hcal : Cal M 3) (hlink : Cond.methodLink own idx M.1 ∈ WSa) (hins : Cond.instanceMethod M.1 ∈ WSa) (hsel : Cond.selects M.1.cls M.1 M.1 ∈ WSa) (hd : decode cc pc = .ok (.invokevirtual idx, 3)) (hsp : Spec l D cA N0 M d mc ms (.ref a :: [b0, b1, b2]) h post) (hrm : Rm R k n d mc ms M.2.2.1) (hcat : (st.map fun v => v.category).sum ≤ 8) (hc : vwCl[ci]? = some (M.1.cls, T, N)) (ha : h.2 a = some (.inr (ci, fs)))
    (kk : ∀ (r : Option Value) (h' : AH), post r h' → Run l D cA N0 own cc nL ret nm R X F h' (k + mc) (n + ms) (pc + 3) L (r.toList ++ st)) : Run l D cA N0 own cc nL ret nm R X F h k n pc L (b2 :: b1 :: b0 :: .ref a :: st) := R_callVG (As := [b0, b1, b2]) hcal hlink hins hsel hd hsp rfl hrm hcat hc ha kk
theorem R_callS3 {M : MI} {idx d mc ms : Nat} {b0 b1 b2 : Value} {post : Option Value → AH → Prop} (hcal : Cal M 3) (hlink : Cond.methodLink own idx M.1 ∈ WSa) (hst : Cond.static M.1 ∈ WSa) (hd : decode cc pc = .ok (.invokestatic idx, 3)) (hsp : Spec l D cA N0 M d mc ms [b0, b1, b2] h post) (hrm : Rm R k n d mc ms M.2.2.1) (hcat : (st.map fun v => v.category).sum ≤ 8)
    (kk : ∀ (r : Option Value) (h' : AH), post r h' → Run l D cA N0 own cc nL ret nm R X F h' (k + mc) (n + ms) (pc + 3) L (r.toList ++ st)) : Run l D cA N0 own cc nL ret nm R X F h k n pc L (b2 :: b1 :: b0 :: st) := R_callSG (As := [b0, b1, b2]) hcal hlink hst hd hsp rfl hrm hcat kk
theorem R_callV4 {M : MI} {idx ci N d mc ms : Nat} {a : Nat} {b0 b1 b2 b3 : Value} {fs : List Value} {T : u_T} {post : Option Value → AH → Prop} (hcal : Cal M 4) (hlink : Cond.methodLink own idx M.1 ∈ WSa) (hins : Cond.instanceMethod M.1 ∈ WSa) (hsel : Cond.selects M.1.cls M.1 M.1 ∈ WSa) (hd : decode cc pc = .ok (.invokevirtual idx, 3)) (hsp : Spec l D cA N0 M d mc ms (.ref a :: [b0, b1, b2, b3]) h post) (hrm : Rm R k n d mc ms M.2.2.1) (hcat : (st.map fun v => v.category).sum ≤ 8) (hc : vwCl[ci]? = some (M.1.cls, T, N)) (ha : h.2 a = some (.inr (ci, fs)))
    (kk : ∀ (r : Option Value) (h' : AH), post r h' → Run l D cA N0 own cc nL ret nm R X F h' (k + mc) (n + ms) (pc + 3) L (r.toList ++ st)) : Run l D cA N0 own cc nL ret nm R X F h k n pc L (b3 :: b2 :: b1 :: b0 :: .ref a :: st) := R_callVG (As := [b0, b1, b2, b3]) hcal hlink hins hsel hd hsp rfl hrm hcat hc ha kk
theorem R_callS4 {M : MI} {idx d mc ms : Nat} {b0 b1 b2 b3 : Value} {post : Option Value → AH → Prop} (hcal : Cal M 4) (hlink : Cond.methodLink own idx M.1 ∈ WSa) (hst : Cond.static M.1 ∈ WSa) (hd : decode cc pc = .ok (.invokestatic idx, 3)) (hsp : Spec l D cA N0 M d mc ms [b0, b1, b2, b3] h post) (hrm : Rm R k n d mc ms M.2.2.1) (hcat : (st.map fun v => v.category).sum ≤ 8)
    (kk : ∀ (r : Option Value) (h' : AH), post r h' → Run l D cA N0 own cc nL ret nm R X F h' (k + mc) (n + ms) (pc + 3) L (r.toList ++ st)) : Run l D cA N0 own cc nL ret nm R X F h k n pc L (b3 :: b2 :: b1 :: b0 :: st) := R_callSG (As := [b0, b1, b2, b3]) hcal hlink hst hd hsp rfl hrm hcat kk
theorem R_callV5 {M : MI} {idx ci N d mc ms : Nat} {a : Nat} {b0 b1 b2 b3 b4 : Value} {fs : List Value} {T : u_T} {post : Option Value → AH → Prop} (hcal : Cal M 5) (hlink : Cond.methodLink own idx M.1 ∈ WSa) (hins : Cond.instanceMethod M.1 ∈ WSa) (hsel : Cond.selects M.1.cls M.1 M.1 ∈ WSa) (hd : decode cc pc = .ok (.invokevirtual idx, 3)) (hsp : Spec l D cA N0 M d mc ms (.ref a :: [b0, b1, b2, b3, b4]) h post) (hrm : Rm R k n d mc ms M.2.2.1) (hcat : (st.map fun v => v.category).sum ≤ 8) (hc : vwCl[ci]? = some (M.1.cls, T, N)) (ha : h.2 a = some (.inr (ci, fs)))
    (kk : ∀ (r : Option Value) (h' : AH), post r h' → Run l D cA N0 own cc nL ret nm R X F h' (k + mc) (n + ms) (pc + 3) L (r.toList ++ st)) : Run l D cA N0 own cc nL ret nm R X F h k n pc L (b4 :: b3 :: b2 :: b1 :: b0 :: .ref a :: st) := R_callVG (As := [b0, b1, b2, b3, b4]) hcal hlink hins hsel hd hsp rfl hrm hcat hc ha kk
theorem R_callS5 {M : MI} {idx d mc ms : Nat} {b0 b1 b2 b3 b4 : Value} {post : Option Value → AH → Prop} (hcal : Cal M 5) (hlink : Cond.methodLink own idx M.1 ∈ WSa) (hst : Cond.static M.1 ∈ WSa) (hd : decode cc pc = .ok (.invokestatic idx, 3)) (hsp : Spec l D cA N0 M d mc ms [b0, b1, b2, b3, b4] h post) (hrm : Rm R k n d mc ms M.2.2.1) (hcat : (st.map fun v => v.category).sum ≤ 8)
    (kk : ∀ (r : Option Value) (h' : AH), post r h' → Run l D cA N0 own cc nL ret nm R X F h' (k + mc) (n + ms) (pc + 3) L (r.toList ++ st)) : Run l D cA N0 own cc nL ret nm R X F h k n pc L (b4 :: b3 :: b2 :: b1 :: b0 :: st) := R_callSG (As := [b0, b1, b2, b3, b4]) hcal hlink hst hd hsp rfl hrm hcat kk
theorem R_callV6 {M : MI} {idx ci N d mc ms : Nat} {a : Nat} {b0 b1 b2 b3 b4 b5 : Value} {fs : List Value} {T : u_T} {post : Option Value → AH → Prop} (hcal : Cal M 6) (hlink : Cond.methodLink own idx M.1 ∈ WSa) (hins : Cond.instanceMethod M.1 ∈ WSa) (hsel : Cond.selects M.1.cls M.1 M.1 ∈ WSa) (hd : decode cc pc = .ok (.invokevirtual idx, 3)) (hsp : Spec l D cA N0 M d mc ms (.ref a :: [b0, b1, b2, b3, b4, b5]) h post) (hrm : Rm R k n d mc ms M.2.2.1) (hcat : (st.map fun v => v.category).sum ≤ 8) (hc : vwCl[ci]? = some (M.1.cls, T, N)) (ha : h.2 a = some (.inr (ci, fs)))
    (kk : ∀ (r : Option Value) (h' : AH), post r h' → Run l D cA N0 own cc nL ret nm R X F h' (k + mc) (n + ms) (pc + 3) L (r.toList ++ st)) : Run l D cA N0 own cc nL ret nm R X F h k n pc L (b5 :: b4 :: b3 :: b2 :: b1 :: b0 :: .ref a :: st) := R_callVG (As := [b0, b1, b2, b3, b4, b5]) hcal hlink hins hsel hd hsp rfl hrm hcat hc ha kk
theorem R_callS6 {M : MI} {idx d mc ms : Nat} {b0 b1 b2 b3 b4 b5 : Value} {post : Option Value → AH → Prop} (hcal : Cal M 6) (hlink : Cond.methodLink own idx M.1 ∈ WSa) (hst : Cond.static M.1 ∈ WSa) (hd : decode cc pc = .ok (.invokestatic idx, 3)) (hsp : Spec l D cA N0 M d mc ms [b0, b1, b2, b3, b4, b5] h post) (hrm : Rm R k n d mc ms M.2.2.1) (hcat : (st.map fun v => v.category).sum ≤ 8)
    (kk : ∀ (r : Option Value) (h' : AH), post r h' → Run l D cA N0 own cc nL ret nm R X F h' (k + mc) (n + ms) (pc + 3) L (r.toList ++ st)) : Run l D cA N0 own cc nL ret nm R X F h k n pc L (b5 :: b4 :: b3 :: b2 :: b1 :: b0 :: st) := R_callSG (As := [b0, b1, b2, b3, b4, b5]) hcal hlink hst hd hsp rfl hrm hcat kk
theorem R_iret {M : MI} {d mc ms : Nat} {post : Option Value → AH → Prop} {v : Int32} {ty : FieldType} (hret : M.2.2.2 = some ty) (hn : narrow ty (.int v) = .int v) (hd : decode M.2.1 pc = .ok (.ireturn, 1)) (hp : post (some (.int v)) h) : RunM l D cA N0 M d mc ms post h mc ms pc L [.int v] := by
  intro p e s m args below meth c H locs ls C hR hS hL
  obtain ⟨hx, hb, hml, hrt, hlk, hown, hnm, hts, hK, hN, hX⟩ := id C
  exact W.zret hx hb (hrt.trans hret) hn (fun t ht hW => ⟨⟨some (.int v), h, rfl, hp, by rw [ht]; exact hR⟩, hS.F ht⟩) hS.2.2 hd hlk
theorem R_vret {M : MI} {d mc ms : Nat} {post : Option Value → AH → Prop} (hret : M.2.2.2 = none) (hd : decode M.2.1 pc = .ok (.return_, 1)) (hp : post none h) : RunM l D cA N0 M d mc ms post h mc ms pc L [] := by
  intro p e s m args below meth c H locs ls C hR hS hL
  obtain ⟨hx, hb, hml, hrt, hlk, hown, hnm, hts, hK, hN, hX⟩ := id C
  exact W.vret hx hb (hrt.trans hret) (fun t ht hW => ⟨⟨none, h, rfl, hp, by rw [ht]; exact hR⟩, hS.F ht⟩) hS.2.2 hd hlk
theorem R_aret {M : MI} {d mc ms : Nat} {post : Option Value → AH → Prop} {v : Value} {C0 : String} (hret : M.2.2.2 = some (.object C0)) (hv : v = .null ∨ ∃ a, v = .ref a) (hd : decode M.2.1 pc = .ok (.areturn, 1)) (hp : post (some v) h) : RunM l D cA N0 M d mc ms post h mc ms pc L [v] := by
  intro p e s m args below meth c H locs ls C hR hS hL
  obtain ⟨hx, hb, hml, hrt, hlk, hown, hnm, hts, hK, hN, hX⟩ := id C
  exact W.aret hx hb (hrt.trans hret) (Or.inl ⟨C0, rfl⟩) hv (fun t ht hW => ⟨⟨some v, h, rfl, hp, by rw [ht]; exact hR⟩, hS.F ht⟩) hS.2.2 hd hlk
/-- a contract with a weaker end -/
theorem Run.cast {h2 : AH} {k2 n2 pc2 : Nat} {L2 : List (Option Value)} {st2 : List Value} (r : Run l D cA N0 own cc nL ret nm R X F h k n pc L st) (e1 : h = h2) (e2 : k = k2) (e3 : n = n2) (e4 : pc = pc2) (e5 : L = L2) (e6 : st = st2) : Run l D cA N0 own cc nL ret nm R X F h2 k2 n2 pc2 L2 st2 := by
  subst e1; subst e2; subst e3; subst e4; subst e5; subst e6; exact r
end RC
end
section
theorem zz_look : True := trivial
end
