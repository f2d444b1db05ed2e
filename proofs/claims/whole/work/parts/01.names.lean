-- ===== PART A: goes FIRST, ahead of the names: the tables' words, and 'selects' of the private methods out of them =====
/-- a private method of a class that the tables say can be made, by its rows of tables_1 -/
def lw_okq (q : MethodName × Nat) : Prop := (q.1.cls ≠ "java/lang/invoke/MethodHandle" ∧ q.1.cls ≠ "java/lang/invoke/VarHandle") ∧ Cond.instantiable q.1.cls q.2 ∈ tables_1 ∧ Cond.privateMethod q.1 ∈ tables_1 ∧ Cond.instanceMethod q.1 ∈ tables_1
theorem lw_p0 : lw_okq (⟨"TurnTops$Shelf", "layouts", "(IZ)LTurnTops$Layouts;"⟩, 3) := ⟨⟨by decide +kernel, by decide +kernel⟩, List.mem_of_getElem? (i := 20) (by decide +kernel), List.mem_of_getElem? (i := 140) (by decide +kernel), List.mem_of_getElem? (i := 141) (by decide +kernel)⟩
theorem lw_p1 : lw_okq (⟨"TurnTops$Layouts", "fillSizes", "(I)V"⟩, 8) := ⟨⟨by decide +kernel, by decide +kernel⟩, List.mem_of_getElem? (i := 143) (by decide +kernel), List.mem_of_getElem? (i := 161) (by decide +kernel), List.mem_of_getElem? (i := 162) (by decide +kernel)⟩
theorem lw_p2 : lw_okq (⟨"TurnTops$Layouts", "fillTurned", "(I)V"⟩, 8) := ⟨⟨by decide +kernel, by decide +kernel⟩, List.mem_of_getElem? (i := 143) (by decide +kernel), List.mem_of_getElem? (i := 168) (by decide +kernel), List.mem_of_getElem? (i := 169) (by decide +kernel)⟩
theorem lw_p3 : lw_okq (⟨"TurnTops$Layouts", "codeBehind", "(II)I"⟩, 8) := ⟨⟨by decide +kernel, by decide +kernel⟩, List.mem_of_getElem? (i := 143) (by decide +kernel), List.mem_of_getElem? (i := 172) (by decide +kernel), List.mem_of_getElem? (i := 173) (by decide +kernel)⟩
theorem lw_p4 : lw_okq (⟨"TurnTops$Layouts", "orderOf", "(I)I"⟩, 8) := ⟨⟨by decide +kernel, by decide +kernel⟩, List.mem_of_getElem? (i := 143) (by decide +kernel), List.mem_of_getElem? (i := 176) (by decide +kernel), List.mem_of_getElem? (i := 177) (by decide +kernel)⟩
theorem lw_p5 : lw_okq (⟨"TurnTops$Layouts", "sidesBehind", "(II)I"⟩, 8) := ⟨⟨by decide +kernel, by decide +kernel⟩, List.mem_of_getElem? (i := 143) (by decide +kernel), List.mem_of_getElem? (i := 180) (by decide +kernel), List.mem_of_getElem? (i := 181) (by decide +kernel)⟩
theorem lw_p6 : lw_okq (⟨"TurnTops$Layouts", "findJoined", "(II)Z"⟩, 8) := ⟨⟨by decide +kernel, by decide +kernel⟩, List.mem_of_getElem? (i := 143) (by decide +kernel), List.mem_of_getElem? (i := 184) (by decide +kernel), List.mem_of_getElem? (i := 185) (by decide +kernel)⟩
theorem lw_p7 : lw_okq (⟨"TurnTops$Shape", "findPossible", "(I)I"⟩, 6) := ⟨⟨by decide +kernel, by decide +kernel⟩, List.mem_of_getElem? (i := 224) (by decide +kernel), List.mem_of_getElem? (i := 231) (by decide +kernel), List.mem_of_getElem? (i := 232) (by decide +kernel)⟩
theorem lw_p8 : lw_okq (⟨"TurnTops", "keepTrial", "()V"⟩, 6) := ⟨⟨by decide +kernel, by decide +kernel⟩, List.mem_of_getElem? (i := 12) (by decide +kernel), List.mem_of_getElem? (i := 280) (by decide +kernel), List.mem_of_getElem? (i := 281) (by decide +kernel)⟩
theorem lw_p9 : lw_okq (⟨"TurnTops", "dropOldestState", "()V"⟩, 6) := ⟨⟨by decide +kernel, by decide +kernel⟩, List.mem_of_getElem? (i := 12) (by decide +kernel), List.mem_of_getElem? (i := 284) (by decide +kernel), List.mem_of_getElem? (i := 285) (by decide +kernel)⟩
theorem lw_p10 : lw_okq (⟨"TurnTops", "stateAt", "(I)LTurnTops$Kitchen;"⟩, 6) := ⟨⟨by decide +kernel, by decide +kernel⟩, List.mem_of_getElem? (i := 12) (by decide +kernel), List.mem_of_getElem? (i := 288) (by decide +kernel), List.mem_of_getElem? (i := 289) (by decide +kernel)⟩
theorem lw_p11 : lw_okq (⟨"TurnTops$Solver", "fillCosts", "([IZ)V"⟩, 6) := ⟨⟨by decide +kernel, by decide +kernel⟩, List.mem_of_getElem? (i := 395) (by decide +kernel), List.mem_of_getElem? (i := 425) (by decide +kernel), List.mem_of_getElem? (i := 426) (by decide +kernel)⟩
theorem lw_p12 : lw_okq (⟨"TurnTops$Solver", "spreadCost", "([IIZ)I"⟩, 6) := ⟨⟨by decide +kernel, by decide +kernel⟩, List.mem_of_getElem? (i := 395) (by decide +kernel), List.mem_of_getElem? (i := 430) (by decide +kernel), List.mem_of_getElem? (i := 431) (by decide +kernel)⟩
theorem lw_p13 : lw_okq (⟨"TurnTops$Solver", "firstTurnToward", "(II)I"⟩, 6) := ⟨⟨by decide +kernel, by decide +kernel⟩, List.mem_of_getElem? (i := 395) (by decide +kernel), List.mem_of_getElem? (i := 444) (by decide +kernel), List.mem_of_getElem? (i := 445) (by decide +kernel)⟩
theorem lw_p14 : lw_okq (⟨"TurnTops$Layouts", "placeOf", "(II)I"⟩, 8) := ⟨⟨by decide +kernel, by decide +kernel⟩, List.mem_of_getElem? (i := 143) (by decide +kernel), List.mem_of_getElem? (i := 491) (by decide +kernel), List.mem_of_getElem? (i := 492) (by decide +kernel)⟩
theorem lw_p15 : lw_okq (⟨"TurnTops$Layouts", "simpleTurnFor", "(IIZ)I"⟩, 8) := ⟨⟨by decide +kernel, by decide +kernel⟩, List.mem_of_getElem? (i := 143) (by decide +kernel), List.mem_of_getElem? (i := 495) (by decide +kernel), List.mem_of_getElem? (i := 496) (by decide +kernel)⟩
def lw_privs_1 : List (MethodName × Nat) := [(⟨"TurnTops$Shelf", "layouts", "(IZ)LTurnTops$Layouts;"⟩, 3), (⟨"TurnTops$Layouts", "fillSizes", "(I)V"⟩, 8), (⟨"TurnTops$Layouts", "fillTurned", "(I)V"⟩, 8), (⟨"TurnTops$Layouts", "codeBehind", "(II)I"⟩, 8), (⟨"TurnTops$Layouts", "orderOf", "(I)I"⟩, 8), (⟨"TurnTops$Layouts", "sidesBehind", "(II)I"⟩, 8), (⟨"TurnTops$Layouts", "findJoined", "(II)Z"⟩, 8), (⟨"TurnTops$Shape", "findPossible", "(I)I"⟩, 6), (⟨"TurnTops", "keepTrial", "()V"⟩, 6), (⟨"TurnTops", "dropOldestState", "()V"⟩, 6), (⟨"TurnTops", "stateAt", "(I)LTurnTops$Kitchen;"⟩, 6), (⟨"TurnTops$Solver", "fillCosts", "([IZ)V"⟩, 6), (⟨"TurnTops$Solver", "spreadCost", "([IIZ)I"⟩, 6), (⟨"TurnTops$Solver", "firstTurnToward", "(II)I"⟩, 6), (⟨"TurnTops$Layouts", "placeOf", "(II)I"⟩, 8), (⟨"TurnTops$Layouts", "simpleTurnFor", "(IIZ)I"⟩, 8)]
theorem lw_r1 : ∀ q ∈ lw_privs_1, lw_okq q := List.forall_mem_cons.mpr ⟨lw_p0, List.forall_mem_cons.mpr ⟨lw_p1, List.forall_mem_cons.mpr ⟨lw_p2, List.forall_mem_cons.mpr ⟨lw_p3, List.forall_mem_cons.mpr ⟨lw_p4, List.forall_mem_cons.mpr ⟨lw_p5, List.forall_mem_cons.mpr ⟨lw_p6, List.forall_mem_cons.mpr ⟨lw_p7, List.forall_mem_cons.mpr ⟨lw_p8, List.forall_mem_cons.mpr ⟨lw_p9, List.forall_mem_cons.mpr ⟨lw_p10, List.forall_mem_cons.mpr ⟨lw_p11, List.forall_mem_cons.mpr ⟨lw_p12, List.forall_mem_cons.mpr ⟨lw_p13, List.forall_mem_cons.mpr ⟨lw_p14, List.forall_mem_cons.mpr ⟨lw_p15, fun _ h => absurd h List.not_mem_nil⟩⟩⟩⟩⟩⟩⟩⟩⟩⟩⟩⟩⟩⟩⟩⟩
theorem lw_p16 : lw_okq (⟨"TurnTops$Text", "readSign", "(ILTurnTops$Kitchen;)I"⟩, 7) := ⟨⟨by decide +kernel, by decide +kernel⟩, List.mem_of_getElem? (i := 40) (by decide +kernel), List.mem_of_getElem? (i := 570) (by decide +kernel), List.mem_of_getElem? (i := 571) (by decide +kernel)⟩
theorem lw_p17 : lw_okq (⟨"TurnTops$Text", "openOrder", "(ILTurnTops$Kitchen;)I"⟩, 7) := ⟨⟨by decide +kernel, by decide +kernel⟩, List.mem_of_getElem? (i := 40) (by decide +kernel), List.mem_of_getElem? (i := 574) (by decide +kernel), List.mem_of_getElem? (i := 575) (by decide +kernel)⟩
theorem lw_p18 : lw_okq (⟨"TurnTops$Text", "readTurn", "(ILTurnTops$Kitchen;)I"⟩, 7) := ⟨⟨by decide +kernel, by decide +kernel⟩, List.mem_of_getElem? (i := 40) (by decide +kernel), List.mem_of_getElem? (i := 579) (by decide +kernel), List.mem_of_getElem? (i := 580) (by decide +kernel)⟩
theorem lw_p19 : lw_okq (⟨"TurnTopsModel", "keeps", "()V"⟩, 21) := ⟨⟨by decide +kernel, by decide +kernel⟩, List.mem_of_getElem? (i := 588) (by decide +kernel), List.mem_of_getElem? (i := 671) (by decide +kernel), List.mem_of_getElem? (i := 672) (by decide +kernel)⟩
theorem lw_p20 : lw_okq (⟨"TurnTopsModel", "acted", "(I)I"⟩, 21) := ⟨⟨by decide +kernel, by decide +kernel⟩, List.mem_of_getElem? (i := 588) (by decide +kernel), List.mem_of_getElem? (i := 675) (by decide +kernel), List.mem_of_getElem? (i := 676) (by decide +kernel)⟩
theorem lw_p21 : lw_okq (⟨"TurnTopsModel", "isStack", "(I)Z"⟩, 21) := ⟨⟨by decide +kernel, by decide +kernel⟩, List.mem_of_getElem? (i := 588) (by decide +kernel), List.mem_of_getElem? (i := 683) (by decide +kernel), List.mem_of_getElem? (i := 684) (by decide +kernel)⟩
theorem lw_p22 : lw_okq (⟨"TurnTopsModel", "st", "(II)I"⟩, 21) := ⟨⟨by decide +kernel, by decide +kernel⟩, List.mem_of_getElem? (i := 588) (by decide +kernel), List.mem_of_getElem? (i := 687) (by decide +kernel), List.mem_of_getElem? (i := 688) (by decide +kernel)⟩
theorem lw_p23 : lw_okq (⟨"TurnTopsModel", "looks", "(I)V"⟩, 21) := ⟨⟨by decide +kernel, by decide +kernel⟩, List.mem_of_getElem? (i := 588) (by decide +kernel), List.mem_of_getElem? (i := 694) (by decide +kernel), List.mem_of_getElem? (i := 695) (by decide +kernel)⟩
theorem lw_p24 : lw_okq (⟨"TurnTopsModel", "lays", "(II)V"⟩, 21) := ⟨⟨by decide +kernel, by decide +kernel⟩, List.mem_of_getElem? (i := 588) (by decide +kernel), List.mem_of_getElem? (i := 698) (by decide +kernel), List.mem_of_getElem? (i := 699) (by decide +kernel)⟩
theorem lw_p25 : lw_okq (⟨"TurnTopsModel", "gaps", "()I"⟩, 21) := ⟨⟨by decide +kernel, by decide +kernel⟩, List.mem_of_getElem? (i := 588) (by decide +kernel), List.mem_of_getElem? (i := 702) (by decide +kernel), List.mem_of_getElem? (i := 703) (by decide +kernel)⟩
theorem lw_p26 : lw_okq (⟨"TurnTopsModel", "isJoined", "(I)Z"⟩, 21) := ⟨⟨by decide +kernel, by decide +kernel⟩, List.mem_of_getElem? (i := 588) (by decide +kernel), List.mem_of_getElem? (i := 706) (by decide +kernel), List.mem_of_getElem? (i := 707) (by decide +kernel)⟩
theorem lw_p27 : lw_okq (⟨"TurnTopsModel", "turnsOne", "(II)I"⟩, 21) := ⟨⟨by decide +kernel, by decide +kernel⟩, List.mem_of_getElem? (i := 588) (by decide +kernel), List.mem_of_getElem? (i := 714) (by decide +kernel), List.mem_of_getElem? (i := 715) (by decide +kernel)⟩
theorem lw_p28 : lw_okq (⟨"TurnTopsModel", "can", "(I)Z"⟩, 21) := ⟨⟨by decide +kernel, by decide +kernel⟩, List.mem_of_getElem? (i := 588) (by decide +kernel), List.mem_of_getElem? (i := 718) (by decide +kernel), List.mem_of_getElem? (i := 719) (by decide +kernel)⟩
theorem lw_p29 : lw_okq (⟨"TurnTopsModel", "turns", "(I)V"⟩, 21) := ⟨⟨by decide +kernel, by decide +kernel⟩, List.mem_of_getElem? (i := 588) (by decide +kernel), List.mem_of_getElem? (i := 723) (by decide +kernel), List.mem_of_getElem? (i := 724) (by decide +kernel)⟩
theorem lw_p30 : lw_okq (⟨"TurnTopsModel", "code", "()I"⟩, 21) := ⟨⟨by decide +kernel, by decide +kernel⟩, List.mem_of_getElem? (i := 588) (by decide +kernel), List.mem_of_getElem? (i := 727) (by decide +kernel), List.mem_of_getElem? (i := 728) (by decide +kernel)⟩
theorem lw_p31 : lw_okq (⟨"TurnTopsModel", "sides", "()I"⟩, 21) := ⟨⟨by decide +kernel, by decide +kernel⟩, List.mem_of_getElem? (i := 588) (by decide +kernel), List.mem_of_getElem? (i := 731) (by decide +kernel), List.mem_of_getElem? (i := 732) (by decide +kernel)⟩
def lw_privs_2 : List (MethodName × Nat) := [(⟨"TurnTops$Text", "readSign", "(ILTurnTops$Kitchen;)I"⟩, 7), (⟨"TurnTops$Text", "openOrder", "(ILTurnTops$Kitchen;)I"⟩, 7), (⟨"TurnTops$Text", "readTurn", "(ILTurnTops$Kitchen;)I"⟩, 7), (⟨"TurnTopsModel", "keeps", "()V"⟩, 21), (⟨"TurnTopsModel", "acted", "(I)I"⟩, 21), (⟨"TurnTopsModel", "isStack", "(I)Z"⟩, 21), (⟨"TurnTopsModel", "st", "(II)I"⟩, 21), (⟨"TurnTopsModel", "looks", "(I)V"⟩, 21), (⟨"TurnTopsModel", "lays", "(II)V"⟩, 21), (⟨"TurnTopsModel", "gaps", "()I"⟩, 21), (⟨"TurnTopsModel", "isJoined", "(I)Z"⟩, 21), (⟨"TurnTopsModel", "turnsOne", "(II)I"⟩, 21), (⟨"TurnTopsModel", "can", "(I)Z"⟩, 21), (⟨"TurnTopsModel", "turns", "(I)V"⟩, 21), (⟨"TurnTopsModel", "code", "()I"⟩, 21), (⟨"TurnTopsModel", "sides", "()I"⟩, 21)]
theorem lw_r2 : ∀ q ∈ lw_privs_2, lw_okq q := List.forall_mem_cons.mpr ⟨lw_p16, List.forall_mem_cons.mpr ⟨lw_p17, List.forall_mem_cons.mpr ⟨lw_p18, List.forall_mem_cons.mpr ⟨lw_p19, List.forall_mem_cons.mpr ⟨lw_p20, List.forall_mem_cons.mpr ⟨lw_p21, List.forall_mem_cons.mpr ⟨lw_p22, List.forall_mem_cons.mpr ⟨lw_p23, List.forall_mem_cons.mpr ⟨lw_p24, List.forall_mem_cons.mpr ⟨lw_p25, List.forall_mem_cons.mpr ⟨lw_p26, List.forall_mem_cons.mpr ⟨lw_p27, List.forall_mem_cons.mpr ⟨lw_p28, List.forall_mem_cons.mpr ⟨lw_p29, List.forall_mem_cons.mpr ⟨lw_p30, List.forall_mem_cons.mpr ⟨lw_p31, fun _ h => absurd h List.not_mem_nil⟩⟩⟩⟩⟩⟩⟩⟩⟩⟩⟩⟩⟩⟩⟩⟩
theorem lw_p32 : lw_okq (⟨"TurnTopsModel", "isSorted", "()Z"⟩, 21) := ⟨⟨by decide +kernel, by decide +kernel⟩, List.mem_of_getElem? (i := 588) (by decide +kernel), List.mem_of_getElem? (i := 744) (by decide +kernel), List.mem_of_getElem? (i := 745) (by decide +kernel)⟩
theorem lw_p33 : lw_okq (⟨"TurnTopsModel", "rank", "()I"⟩, 21) := ⟨⟨by decide +kernel, by decide +kernel⟩, List.mem_of_getElem? (i := 588) (by decide +kernel), List.mem_of_getElem? (i := 748) (by decide +kernel), List.mem_of_getElem? (i := 749) (by decide +kernel)⟩
theorem lw_p34 : lw_okq (⟨"TurnTopsModel", "possible", "()I"⟩, 21) := ⟨⟨by decide +kernel, by decide +kernel⟩, List.mem_of_getElem? (i := 588) (by decide +kernel), List.mem_of_getElem? (i := 752) (by decide +kernel), List.mem_of_getElem? (i := 753) (by decide +kernel)⟩
theorem lw_p35 : lw_okq (⟨"TurnTopsModel", "leads", "(I)I"⟩, 21) := ⟨⟨by decide +kernel, by decide +kernel⟩, List.mem_of_getElem? (i := 588) (by decide +kernel), List.mem_of_getElem? (i := 768) (by decide +kernel), List.mem_of_getElem? (i := 769) (by decide +kernel)⟩
theorem lw_p36 : lw_okq (⟨"TurnTopsModel", "all", "()I"⟩, 21) := ⟨⟨by decide +kernel, by decide +kernel⟩, List.mem_of_getElem? (i := 588) (by decide +kernel), List.mem_of_getElem? (i := 772) (by decide +kernel), List.mem_of_getElem? (i := 773) (by decide +kernel)⟩
theorem lw_p37 : lw_okq (⟨"TurnTopsModel", "unranks", "(I)V"⟩, 21) := ⟨⟨by decide +kernel, by decide +kernel⟩, List.mem_of_getElem? (i := 588) (by decide +kernel), List.mem_of_getElem? (i := 779) (by decide +kernel), List.mem_of_getElem? (i := 780) (by decide +kernel)⟩
theorem lw_p38 : lw_okq (⟨"TurnTopsModel", "measures", "()V"⟩, 21) := ⟨⟨by decide +kernel, by decide +kernel⟩, List.mem_of_getElem? (i := 588) (by decide +kernel), List.mem_of_getElem? (i := 783) (by decide +kernel), List.mem_of_getElem? (i := 784) (by decide +kernel)⟩
theorem lw_p39 : lw_okq (⟨"TurnTopsModel", "gapsOf", "(I)I"⟩, 21) := ⟨⟨by decide +kernel, by decide +kernel⟩, List.mem_of_getElem? (i := 588) (by decide +kernel), List.mem_of_getElem? (i := 801) (by decide +kernel), List.mem_of_getElem? (i := 802) (by decide +kernel)⟩
theorem lw_p40 : lw_okq (⟨"TurnTopsModel", "simpleTurn", "()I"⟩, 21) := ⟨⟨by decide +kernel, by decide +kernel⟩, List.mem_of_getElem? (i := 588) (by decide +kernel), List.mem_of_getElem? (i := 809) (by decide +kernel), List.mem_of_getElem? (i := 810) (by decide +kernel)⟩
theorem lw_p41 : lw_okq (⟨"TurnTopsModel", "placeOf", "(I)I"⟩, 21) := ⟨⟨by decide +kernel, by decide +kernel⟩, List.mem_of_getElem? (i := 588) (by decide +kernel), List.mem_of_getElem? (i := 813) (by decide +kernel), List.mem_of_getElem? (i := 814) (by decide +kernel)⟩
theorem lw_p42 : lw_okq (⟨"TurnTopsModel", "ofAll", "(I)I"⟩, 21) := ⟨⟨by decide +kernel, by decide +kernel⟩, List.mem_of_getElem? (i := 588) (by decide +kernel), List.mem_of_getElem? (i := 833) (by decide +kernel), List.mem_of_getElem? (i := 834) (by decide +kernel)⟩
theorem lw_p43 : lw_okq (⟨"TurnTopsModel", "faulty", "()I"⟩, 21) := ⟨⟨by decide +kernel, by decide +kernel⟩, List.mem_of_getElem? (i := 588) (by decide +kernel), List.mem_of_getElem? (i := 853) (by decide +kernel), List.mem_of_getElem? (i := 854) (by decide +kernel)⟩
theorem lw_p44 : lw_okq (⟨"TurnTopsModel", "reads", "()I"⟩, 21) := ⟨⟨by decide +kernel, by decide +kernel⟩, List.mem_of_getElem? (i := 588) (by decide +kernel), List.mem_of_getElem? (i := 857) (by decide +kernel), List.mem_of_getElem? (i := 858) (by decide +kernel)⟩
theorem lw_p45 : lw_okq (⟨"TurnTopsModel", "does", "()Z"⟩, 21) := ⟨⟨by decide +kernel, by decide +kernel⟩, List.mem_of_getElem? (i := 588) (by decide +kernel), List.mem_of_getElem? (i := 861) (by decide +kernel), List.mem_of_getElem? (i := 862) (by decide +kernel)⟩
theorem lw_p46 : lw_okq (⟨"TurnTopsModel", "sign", "()I"⟩, 21) := ⟨⟨by decide +kernel, by decide +kernel⟩, List.mem_of_getElem? (i := 588) (by decide +kernel), List.mem_of_getElem? (i := 865) (by decide +kernel), List.mem_of_getElem? (i := 866) (by decide +kernel)⟩
def lw_privs_3 : List (MethodName × Nat) := [(⟨"TurnTopsModel", "isSorted", "()Z"⟩, 21), (⟨"TurnTopsModel", "rank", "()I"⟩, 21), (⟨"TurnTopsModel", "possible", "()I"⟩, 21), (⟨"TurnTopsModel", "leads", "(I)I"⟩, 21), (⟨"TurnTopsModel", "all", "()I"⟩, 21), (⟨"TurnTopsModel", "unranks", "(I)V"⟩, 21), (⟨"TurnTopsModel", "measures", "()V"⟩, 21), (⟨"TurnTopsModel", "gapsOf", "(I)I"⟩, 21), (⟨"TurnTopsModel", "simpleTurn", "()I"⟩, 21), (⟨"TurnTopsModel", "placeOf", "(I)I"⟩, 21), (⟨"TurnTopsModel", "ofAll", "(I)I"⟩, 21), (⟨"TurnTopsModel", "faulty", "()I"⟩, 21), (⟨"TurnTopsModel", "reads", "()I"⟩, 21), (⟨"TurnTopsModel", "does", "()Z"⟩, 21), (⟨"TurnTopsModel", "sign", "()I"⟩, 21)]
theorem lw_r3 : ∀ q ∈ lw_privs_3, lw_okq q := List.forall_mem_cons.mpr ⟨lw_p32, List.forall_mem_cons.mpr ⟨lw_p33, List.forall_mem_cons.mpr ⟨lw_p34, List.forall_mem_cons.mpr ⟨lw_p35, List.forall_mem_cons.mpr ⟨lw_p36, List.forall_mem_cons.mpr ⟨lw_p37, List.forall_mem_cons.mpr ⟨lw_p38, List.forall_mem_cons.mpr ⟨lw_p39, List.forall_mem_cons.mpr ⟨lw_p40, List.forall_mem_cons.mpr ⟨lw_p41, List.forall_mem_cons.mpr ⟨lw_p42, List.forall_mem_cons.mpr ⟨lw_p43, List.forall_mem_cons.mpr ⟨lw_p44, List.forall_mem_cons.mpr ⟨lw_p45, List.forall_mem_cons.mpr ⟨lw_p46, fun _ h => absurd h List.not_mem_nil⟩⟩⟩⟩⟩⟩⟩⟩⟩⟩⟩⟩⟩⟩⟩
def lw_privs : List (MethodName × Nat) := lw_privs_1 ++ (lw_privs_2 ++ (lw_privs_3))
def lw_tbl : List Cond := k2_sels lw_privs ++ tables_1
theorem lw_privs_ok : ∀ q ∈ lw_privs, lw_okq q := by
  show ∀ q ∈ lw_privs_1 ++ (lw_privs_2 ++ (lw_privs_3)), lw_okq q
  exact List.forall_mem_append.mpr ⟨lw_r1, List.forall_mem_append.mpr ⟨lw_r2, lw_r3⟩⟩
-- ===== end of PART A; then your names; then what follows =====
def RX0 : String := "TurnTops$Kitchen"
def TX0 : u_T := fun k => match k with
  | 0 => ("TurnTops$Kitchen", "stacks", "I", false)
  | 1 => ("TurnTops$Kitchen", "hand", "I", false)
  | 2 => ("TurnTops$Kitchen", "handTurns", "[I", true)
  | 3 => ("TurnTops$Kitchen", "handWork", "[I", true)
  | 4 => ("TurnTops$Kitchen", "shapes", "[LTurnTops$Shape;", true)
  | 5 => ("TurnTops$Kitchen", "ranks", "[I", true)
  | _ => ("TurnTops$Kitchen", "made", "[I", true)
def tyX0 : Nat → FieldType := fun k => match k with
  | 0 => .int
  | 1 => .int
  | 2 => .array .int
  | 3 => .array .int
  | 4 => .array (.object "TurnTops$Shape")
  | 5 => .array .int
  | _ => .array .int
abbrev wsX00 : List Cond := u_ws RX0 TX0 7
theorem nmX0 : ∀ a, a < 7 → ∀ b, b < 7 → a ≠ b → (TX0 a).2.1 ≠ (TX0 b).2.1 := by decide +kernel
theorem tyX0_ok : ∀ k, k < 7 → parseFieldDescriptor (TX0 k).2.2.1 = some (tyX0 k) := by decide +kernel
abbrev cX0_init : ByteArray := prog_2_method_1_code
def yX0_init : MethodName := ⟨RX0, "<init>", "()V"⟩
abbrev cX0_copyFrom : ByteArray := prog_2_method_2_code
def yX0_copyFrom : MethodName := ⟨RX0, "copyFrom", "(LTurnTops$Kitchen;)V"⟩
abbrev cX0_shapeOf : ByteArray := prog_2_method_3_code
def yX0_shapeOf : MethodName := ⟨RX0, "shapeOf", "(I)LTurnTops$Shape;"⟩
abbrev cX0_rankOf : ByteArray := prog_2_method_4_code
def yX0_rankOf : MethodName := ⟨RX0, "rankOf", "(I)I"⟩
abbrev cX0_madeOf : ByteArray := prog_2_method_5_code
def yX0_madeOf : MethodName := ⟨RX0, "madeOf", "(I)I"⟩
abbrev cX0_putRank : ByteArray := prog_2_method_6_code
def yX0_putRank : MethodName := ⟨RX0, "putRank", "(II)V"⟩
abbrev cX0_add : ByteArray := prog_2_method_7_code
def yX0_add : MethodName := ⟨RX0, "add", "(LTurnTops$Shape;)I"⟩
abbrev cX0_makeTurn : ByteArray := prog_2_method_8_code
def yX0_makeTurn : MethodName := ⟨RX0, "makeTurn", "(II)Z"⟩
abbrev cX0_makeRow : ByteArray := prog_2_method_9_code
def yX0_makeRow : MethodName := ⟨RX0, "makeRow", "(II)Z"⟩
abbrev cX0_sortedStacks : ByteArray := prog_2_method_10_code
def yX0_sortedStacks : MethodName := ⟨RX0, "sortedStacks", "()I"⟩
abbrev cX0_allGaps : ByteArray := prog_2_method_11_code
def yX0_allGaps : MethodName := ⟨RX0, "allGaps", "()I"⟩
abbrev cX0_allTurns : ByteArray := prog_2_method_12_code
def yX0_allTurns : MethodName := ⟨RX0, "allTurns", "()I"⟩
def RX1 : String := "TurnTops$Layouts"
def TX1 : u_T := fun k => match k with
  | 0 => ("TurnTops$Layouts", "cakes", "I", true)
  | 1 => ("TurnTops$Layouts", "ranks", "I", true)
  | 2 => ("TurnTops$Layouts", "sideBits", "I", true)
  | 3 => ("TurnTops$Layouts", "allSides", "I", true)
  | 4 => ("TurnTops$Layouts", "codes", "[I", true)
  | 5 => ("TurnTops$Layouts", "sizes", "[I", true)
  | 6 => ("TurnTops$Layouts", "turned", "[I", true)
  | _ => ("TurnTops$Layouts", "joined", "[I", true)
def tyX1 : Nat → FieldType := fun k => match k with
  | 0 => .int
  | 1 => .int
  | 2 => .int
  | 3 => .int
  | 4 => .array .int
  | 5 => .array .int
  | 6 => .array .int
  | _ => .array .int
abbrev wsX10 : List Cond := u_ws RX1 TX1 8
theorem nmX1 : ∀ a, a < 8 → ∀ b, b < 8 → a ≠ b → (TX1 a).2.1 ≠ (TX1 b).2.1 := by decide +kernel
theorem tyX1_ok : ∀ k, k < 8 → parseFieldDescriptor (TX1 k).2.2.1 = some (tyX1 k) := by decide +kernel
abbrev cX1_init : ByteArray := prog_3_method_1_code
def yX1_init : MethodName := ⟨RX1, "<init>", "(IZ)V"⟩
abbrev cX1_fillCodes : ByteArray := prog_3_method_2_code
def yX1_fillCodes : MethodName := ⟨RX1, "fillCodes", "([IIIIII)I"⟩
abbrev cX1_fillSizes : ByteArray := prog_3_method_3_code
def yX1_fillSizes : MethodName := ⟨RX1, "fillSizes", "(I)V"⟩
abbrev cX1_fillTurned : ByteArray := prog_3_method_4_code
def yX1_fillTurned : MethodName := ⟨RX1, "fillTurned", "(I)V"⟩
abbrev cX1_codeBehind : ByteArray := prog_3_method_5_code
def yX1_codeBehind : MethodName := ⟨RX1, "codeBehind", "(II)I"⟩
abbrev cX1_sidesBehind : ByteArray := prog_3_method_6_code
def yX1_sidesBehind : MethodName := ⟨RX1, "sidesBehind", "(II)I"⟩
abbrev cX1_findJoined : ByteArray := prog_3_method_7_code
def yX1_findJoined : MethodName := ⟨RX1, "findJoined", "(II)Z"⟩
abbrev cX1_orderOf : ByteArray := prog_3_method_8_code
def yX1_orderOf : MethodName := ⟨RX1, "orderOf", "(I)I"⟩
abbrev cX1_rankOf : ByteArray := prog_3_method_9_code
def yX1_rankOf : MethodName := ⟨RX1, "rankOf", "(II)I"⟩
abbrev cX1_codeOf : ByteArray := prog_3_method_10_code
def yX1_codeOf : MethodName := ⟨RX1, "codeOf", "(I)I"⟩
abbrev cX1_sidesOf : ByteArray := prog_3_method_11_code
def yX1_sidesOf : MethodName := ⟨RX1, "sidesOf", "(I)I"⟩
abbrev cX1_sizeAt : ByteArray := prog_3_method_12_code
def yX1_sizeAt : MethodName := ⟨RX1, "sizeAt", "(II)I"⟩
abbrev cX1_isBurnt : ByteArray := prog_3_method_13_code
def yX1_isBurnt : MethodName := ⟨RX1, "isBurnt", "(II)Z"⟩
abbrev cX1_behind : ByteArray := prog_3_method_14_code
def yX1_behind : MethodName := ⟨RX1, "behind", "(II)I"⟩
abbrev cX1_isJoined : ByteArray := prog_3_method_15_code
def yX1_isJoined : MethodName := ⟨RX1, "isJoined", "(II)Z"⟩
abbrev cX1_gaps : ByteArray := prog_3_method_16_code
def yX1_gaps : MethodName := ⟨RX1, "gaps", "(I)I"⟩
abbrev cX1_simpleTurn : ByteArray := prog_3_method_17_code
def yX1_simpleTurn : MethodName := ⟨RX1, "simpleTurn", "(I)I"⟩
abbrev cX1_simpleTurnFor : ByteArray := prog_3_method_18_code
def yX1_simpleTurnFor : MethodName := ⟨RX1, "simpleTurnFor", "(IIZ)I"⟩
abbrev cX1_placeOf : ByteArray := prog_3_method_19_code
def yX1_placeOf : MethodName := ⟨RX1, "placeOf", "(II)I"⟩
def RX2 : String := "TurnTops$Shape"
def TX2 : u_T := fun k => match k with
  | 0 => ("TurnTops$Shape", "kind", "I", true)
  | 1 => ("TurnTops$Shape", "strength", "I", true)
  | 2 => ("TurnTops$Shape", "cakes", "I", true)
  | 3 => ("TurnTops$Shape", "layouts", "LTurnTops$Layouts;", true)
  | 4 => ("TurnTops$Shape", "possible", "[I", true)
  | _ => ("TurnTops$Shape", "solver", "LTurnTops$Solver;", false)
def tyX2 : Nat → FieldType := fun k => match k with
  | 0 => .int
  | 1 => .int
  | 2 => .int
  | 3 => .object "TurnTops$Layouts"
  | 4 => .array .int
  | _ => .object "TurnTops$Solver"
abbrev wsX20 : List Cond := u_ws RX2 TX2 6
theorem nmX2 : ∀ a, a < 6 → ∀ b, b < 6 → a ≠ b → (TX2 a).2.1 ≠ (TX2 b).2.1 := by decide +kernel
theorem tyX2_ok : ∀ k, k < 6 → parseFieldDescriptor (TX2 k).2.2.1 = some (tyX2 k) := by decide +kernel
abbrev cX2_init : ByteArray := prog_4_method_1_code
def yX2_init : MethodName := ⟨RX2, "<init>", "(IILTurnTops$Layouts;)V"⟩
abbrev cX2_findPossible : ByteArray := prog_4_method_2_code
def yX2_findPossible : MethodName := ⟨RX2, "findPossible", "(I)I"⟩
abbrev cX2_solver : ByteArray := prog_4_method_3_code
def yX2_solver : MethodName := ⟨RX2, "solver", "()LTurnTops$Solver;"⟩
abbrev cX2_possibleTurns : ByteArray := prog_4_method_4_code
def yX2_possibleTurns : MethodName := ⟨RX2, "possibleTurns", "(I)I"⟩
abbrev cX2_allows : ByteArray := prog_4_method_5_code
def yX2_allows : MethodName := ⟨RX2, "allows", "(II)Z"⟩
abbrev cX2_turnToFewestGaps : ByteArray := prog_4_method_6_code
def yX2_turnToFewestGaps : MethodName := ⟨RX2, "turnToFewestGaps", "(I)I"⟩
def RX3 : String := "TurnTops$Shelf"
def TX3 : u_T := fun k => match k with
  | 0 => ("TurnTops$Shelf", "plainLayouts", "[LTurnTops$Layouts;", true)
  | 1 => ("TurnTops$Shelf", "sidedLayouts", "[LTurnTops$Layouts;", true)
  | _ => ("TurnTops$Shelf", "shapes", "[LTurnTops$Shape;", true)
def tyX3 : Nat → FieldType := fun k => match k with
  | 0 => .array (.object "TurnTops$Layouts")
  | 1 => .array (.object "TurnTops$Layouts")
  | _ => .array (.object "TurnTops$Shape")
abbrev wsX30 : List Cond := u_ws RX3 TX3 3
theorem nmX3 : ∀ a, a < 3 → ∀ b, b < 3 → a ≠ b → (TX3 a).2.1 ≠ (TX3 b).2.1 := by decide +kernel
theorem tyX3_ok : ∀ k, k < 3 → parseFieldDescriptor (TX3 k).2.2.1 = some (tyX3 k) := by decide +kernel
abbrev cX3_init : ByteArray := prog_5_method_1_code
def yX3_init : MethodName := ⟨RX3, "<init>", "()V"⟩
abbrev cX3_shape : ByteArray := prog_5_method_2_code
def yX3_shape : MethodName := ⟨RX3, "shape", "(III)LTurnTops$Shape;"⟩
abbrev cX3_layouts : ByteArray := prog_5_method_3_code
def yX3_layouts : MethodName := ⟨RX3, "layouts", "(IZ)LTurnTops$Layouts;"⟩
abbrev cX3_isSided : ByteArray := prog_5_method_4_code
def yX3_isSided : MethodName := ⟨RX3, "isSided", "(I)Z"⟩
abbrev cX3_mostCakes : ByteArray := prog_5_method_5_code
def yX3_mostCakes : MethodName := ⟨RX3, "mostCakes", "(I)I"⟩
def RX4 : String := "TurnTops$Solver"
def TX4 : u_T := fun k => match k with
  | 0 => ("TurnTops$Solver", "shape", "LTurnTops$Shape;", true)
  | 1 => ("TurnTops$Solver", "layouts", "LTurnTops$Layouts;", true)
  | 2 => ("TurnTops$Solver", "turnCosts", "[I", true)
  | 3 => ("TurnTops$Solver", "turnsKnown", "Z", false)
  | 4 => ("TurnTops$Solver", "workCosts", "[I", true)
  | _ => ("TurnTops$Solver", "workKnown", "Z", false)
def tyX4 : Nat → FieldType := fun k => match k with
  | 0 => .object "TurnTops$Shape"
  | 1 => .object "TurnTops$Layouts"
  | 2 => .array .int
  | 3 => .boolean
  | 4 => .array .int
  | _ => .boolean
abbrev wsX40 : List Cond := u_ws RX4 TX4 6
theorem nmX4 : ∀ a, a < 6 → ∀ b, b < 6 → a ≠ b → (TX4 a).2.1 ≠ (TX4 b).2.1 := by decide +kernel
theorem tyX4_ok : ∀ k, k < 6 → parseFieldDescriptor (TX4 k).2.2.1 = some (tyX4 k) := by decide +kernel
abbrev cX4_init : ByteArray := prog_6_method_1_code
def yX4_init : MethodName := ⟨RX4, "<init>", "(LTurnTops$Shape;)V"⟩
abbrev cX4_turnsFrom : ByteArray := prog_6_method_2_code
def yX4_turnsFrom : MethodName := ⟨RX4, "turnsFrom", "(I)I"⟩
abbrev cX4_workFrom : ByteArray := prog_6_method_3_code
def yX4_workFrom : MethodName := ⟨RX4, "workFrom", "(I)I"⟩
abbrev cX4_stacksWithTurns : ByteArray := prog_6_method_4_code
def yX4_stacksWithTurns : MethodName := ⟨RX4, "stacksWithTurns", "(I)I"⟩
abbrev cX4_firstRow : ByteArray := prog_6_method_5_code
def yX4_firstRow : MethodName := ⟨RX4, "firstRow", "(I)I"⟩
abbrev cX4_firstTurnToward : ByteArray := prog_6_method_6_code
def yX4_firstTurnToward : MethodName := ⟨RX4, "firstTurnToward", "(II)I"⟩
abbrev cX4_fillCosts : ByteArray := prog_6_method_7_code
def yX4_fillCosts : MethodName := ⟨RX4, "fillCosts", "([IZ)V"⟩
abbrev cX4_spreadCost : ByteArray := prog_6_method_8_code
def yX4_spreadCost : MethodName := ⟨RX4, "spreadCost", "([IIZ)I"⟩
abbrev cX4_sortingRows : ByteArray := prog_6_method_9_code
def yX4_sortingRows : MethodName := ⟨RX4, "sortingRows", "(II)I"⟩
abbrev cX4_countSorting : ByteArray := prog_6_method_10_code
def yX4_countSorting : MethodName := ⟨RX4, "countSorting", "(LTurnTops$Shape;II)I"⟩
abbrev cX4_searchedRows : ByteArray := prog_6_method_11_code
def yX4_searchedRows : MethodName := ⟨RX4, "searchedRows", "(II)I"⟩
abbrev cX4_countSearched : ByteArray := prog_6_method_12_code
def yX4_countSearched : MethodName := ⟨RX4, "countSearched", "(LTurnTops$Shape;III)I"⟩
abbrev cX4_simpleWay : ByteArray := prog_6_method_13_code
def yX4_simpleWay : MethodName := ⟨RX4, "simpleWay", "(II)I"⟩
def RX5 : String := "TurnTops$Text"
def TX5 : u_T := fun k => match k with
  | 0 => ("TurnTops$Text", "length", "I", false)
  | 1 => ("TurnTops$Text", "reason", "I", false)
  | 2 => ("TurnTops$Text", "faultPlace", "I", false)
  | 3 => ("TurnTops$Text", "turns", "I", false)
  | 4 => ("TurnTops$Text", "signs", "[I", true)
  | 5 => ("TurnTops$Text", "openStack", "I", false)
  | _ => ("TurnTops$Text", "turnsOfOrder", "I", false)
def tyX5 : Nat → FieldType := fun k => match k with
  | 0 => .int
  | 1 => .int
  | 2 => .int
  | 3 => .int
  | 4 => .array .int
  | 5 => .int
  | _ => .int
abbrev wsX50 : List Cond := u_ws RX5 TX5 7
theorem nmX5 : ∀ a, a < 7 → ∀ b, b < 7 → a ≠ b → (TX5 a).2.1 ≠ (TX5 b).2.1 := by decide +kernel
theorem tyX5_ok : ∀ k, k < 7 → parseFieldDescriptor (TX5 k).2.2.1 = some (tyX5 k) := by decide +kernel
abbrev cX5_init : ByteArray := prog_7_method_1_code
def yX5_init : MethodName := ⟨RX5, "<init>", "()V"⟩
abbrev cX5_append : ByteArray := prog_7_method_2_code
def yX5_append : MethodName := ⟨RX5, "append", "(I)Z"⟩
abbrev cX5_empty : ByteArray := prog_7_method_3_code
def yX5_empty : MethodName := ⟨RX5, "empty", "()I"⟩
abbrev cX5_readInto : ByteArray := prog_7_method_4_code
def yX5_readInto : MethodName := ⟨RX5, "readInto", "(LTurnTops$Kitchen;)V"⟩
abbrev cX5_readSign : ByteArray := prog_7_method_5_code
def yX5_readSign : MethodName := ⟨RX5, "readSign", "(ILTurnTops$Kitchen;)I"⟩
abbrev cX5_openOrder : ByteArray := prog_7_method_6_code
def yX5_openOrder : MethodName := ⟨RX5, "openOrder", "(ILTurnTops$Kitchen;)I"⟩
abbrev cX5_readTurn : ByteArray := prog_7_method_7_code
def yX5_readTurn : MethodName := ⟨RX5, "readTurn", "(ILTurnTops$Kitchen;)I"⟩
def RX6 : String := "TurnTops"
def TX6 : u_T := fun k => match k with
  | 0 => ("TurnTops", "shelf", "LTurnTops$Shelf;", true)
  | 1 => ("TurnTops", "text", "LTurnTops$Text;", true)
  | 2 => ("TurnTops", "now", "LTurnTops$Kitchen;", true)
  | 3 => ("TurnTops", "trial", "LTurnTops$Kitchen;", true)
  | 4 => ("TurnTops", "history", "[LTurnTops$Kitchen;", true)
  | _ => ("TurnTops", "states", "I", false)
def tyX6 : Nat → FieldType := fun k => match k with
  | 0 => .object "TurnTops$Shelf"
  | 1 => .object "TurnTops$Text"
  | 2 => .object "TurnTops$Kitchen"
  | 3 => .object "TurnTops$Kitchen"
  | 4 => .array (.object "TurnTops$Kitchen")
  | _ => .int
abbrev wsX60 : List Cond := u_ws RX6 TX6 6
theorem nmX6 : ∀ a, a < 6 → ∀ b, b < 6 → a ≠ b → (TX6 a).2.1 ≠ (TX6 b).2.1 := by decide +kernel
theorem tyX6_ok : ∀ k, k < 6 → parseFieldDescriptor (TX6 k).2.2.1 = some (tyX6 k) := by decide +kernel
abbrev cX6_init : ByteArray := prog_1_method_1_code
def yX6_init : MethodName := ⟨RX6, "<init>", "()V"⟩
abbrev cX6_stack : ByteArray := prog_1_method_2_code
def yX6_stack : MethodName := ⟨RX6, "stack", "(III)I"⟩
abbrev cX6_lay : ByteArray := prog_1_method_3_code
def yX6_lay : MethodName := ⟨RX6, "lay", "(III)I"⟩
abbrev cX6_turn : ByteArray := prog_1_method_4_code
def yX6_turn : MethodName := ⟨RX6, "turn", "(II)I"⟩
abbrev cX6_doRow : ByteArray := prog_1_method_5_code
def yX6_doRow : MethodName := ⟨RX6, "doRow", "(II)I"⟩
abbrev cX6_stackOf : ByteArray := prog_1_method_6_code
def yX6_stackOf : MethodName := ⟨RX6, "stackOf", "(II)I"⟩
abbrev cX6_cakeAt : ByteArray := prog_1_method_7_code
def yX6_cakeAt : MethodName := ⟨RX6, "cakeAt", "(II)I"⟩
abbrev cX6_gapsBehind : ByteArray := prog_1_method_8_code
def yX6_gapsBehind : MethodName := ⟨RX6, "gapsBehind", "(II)I"⟩
abbrev cX6_fewest : ByteArray := prog_1_method_9_code
def yX6_fewest : MethodName := ⟨RX6, "fewest", "(II)I"⟩
abbrev cX6_leastWork : ByteArray := prog_1_method_10_code
def yX6_leastWork : MethodName := ⟨RX6, "leastWork", "(I)I"⟩
abbrev cX6_ways : ByteArray := prog_1_method_11_code
def yX6_ways : MethodName := ⟨RX6, "ways", "(II)I"⟩
abbrev cX6_lookedAt : ByteArray := prog_1_method_12_code
def yX6_lookedAt : MethodName := ⟨RX6, "lookedAt", "(II)I"⟩
abbrev cX6_simple : ByteArray := prog_1_method_13_code
def yX6_simple : MethodName := ⟨RX6, "simple", "(II)I"⟩
abbrev cX6_bestTurn : ByteArray := prog_1_method_14_code
def yX6_bestTurn : MethodName := ⟨RX6, "bestTurn", "(I)I"⟩
abbrev cX6_ranked : ByteArray := prog_1_method_15_code
def yX6_ranked : MethodName := ⟨RX6, "ranked", "(III)I"⟩
abbrev cX6_ofDistance : ByteArray := prog_1_method_16_code
def yX6_ofDistance : MethodName := ⟨RX6, "ofDistance", "(II)I"⟩
abbrev cX6_count : ByteArray := prog_1_method_17_code
def yX6_count : MethodName := ⟨RX6, "count", "(I)I"⟩
abbrev cX6_undo : ByteArray := prog_1_method_18_code
def yX6_undo : MethodName := ⟨RX6, "undo", "()I"⟩
abbrev cX6_type : ByteArray := prog_1_method_19_code
def yX6_type : MethodName := ⟨RX6, "type", "(I)I"⟩
abbrev cX6_clearText : ByteArray := prog_1_method_20_code
def yX6_clearText : MethodName := ⟨RX6, "clearText", "()I"⟩
abbrev cX6_fault : ByteArray := prog_1_method_21_code
def yX6_fault : MethodName := ⟨RX6, "fault", "(I)I"⟩
abbrev cX6_play : ByteArray := prog_1_method_22_code
def yX6_play : MethodName := ⟨RX6, "play", "()I"⟩
abbrev cX6_keepTrial : ByteArray := prog_1_method_23_code
def yX6_keepTrial : MethodName := ⟨RX6, "keepTrial", "()V"⟩
abbrev cX6_dropOldestState : ByteArray := prog_1_method_24_code
def yX6_dropOldestState : MethodName := ⟨RX6, "dropOldestState", "()V"⟩
abbrev cX6_stateAt : ByteArray := prog_1_method_25_code
def yX6_stateAt : MethodName := ⟨RX6, "stateAt", "(I)LTurnTops$Kitchen;"⟩
abbrev cX6_at : ByteArray := prog_1_method_26_code
def yX6_at : MethodName := ⟨RX6, "at", "([II)I"⟩
abbrev cX6_put : ByteArray := prog_1_method_27_code
def yX6_put : MethodName := ⟨RX6, "put", "([III)V"⟩
abbrev cX6_newRow : ByteArray := prog_1_method_28_code
def yX6_newRow : MethodName := ⟨RX6, "newRow", "(I)[I"⟩
abbrev cX6_copy : ByteArray := prog_1_method_29_code
def yX6_copy : MethodName := ⟨RX6, "copy", "([I[I)V"⟩
def RX7 : String := "TurnTopsModel"
def TX7 : u_T := fun k => match k with
  | 0 => ("TurnTopsModel", "s", "[I", true)
  | 1 => ("TurnTopsModel", "was", "[I", true)
  | 2 => ("TurnTopsModel", "begun", "[I", true)
  | 3 => ("TurnTopsModel", "aside", "[I", true)
  | 4 => ("TurnTopsModel", "states", "I", false)
  | 5 => ("TurnTopsModel", "text", "[C", true)
  | 6 => ("TurnTopsModel", "typed", "I", false)
  | 7 => ("TurnTopsModel", "at", "I", false)
  | 8 => ("TurnTopsModel", "reason", "I", false)
  | 9 => ("TurnTopsModel", "done", "I", false)
  | 10 => ("TurnTopsModel", "kind", "I", false)
  | 11 => ("TurnTopsModel", "n", "I", false)
  | 12 => ("TurnTopsModel", "strength", "I", false)
  | 13 => ("TurnTopsModel", "size", "[I", true)
  | 14 => ("TurnTopsModel", "burnt", "[I", true)
  | 15 => ("TurnTopsModel", "next", "[I", true)
  | 16 => ("TurnTopsModel", "far", "[I", true)
  | 17 => ("TurnTopsModel", "then", "[I", true)
  | 18 => ("TurnTopsModel", "queue", "[I", true)
  | 19 => ("TurnTopsModel", "rankAt", "[I", true)
  | _ => ("TurnTopsModel", "turnAt", "[I", true)
def tyX7 : Nat → FieldType := fun k => match k with
  | 0 => .array .int
  | 1 => .array .int
  | 2 => .array .int
  | 3 => .array .int
  | 4 => .int
  | 5 => .array .char
  | 6 => .int
  | 7 => .int
  | 8 => .int
  | 9 => .int
  | 10 => .int
  | 11 => .int
  | 12 => .int
  | 13 => .array .int
  | 14 => .array .int
  | 15 => .array .int
  | 16 => .array .int
  | 17 => .array .int
  | 18 => .array .int
  | 19 => .array .int
  | _ => .array .int
abbrev wsX70 : List Cond := u_ws RX7 TX7 21
theorem nmX7 : ∀ a, a < 21 → ∀ b, b < 21 → a ≠ b → (TX7 a).2.1 ≠ (TX7 b).2.1 := by decide +kernel
theorem tyX7_ok : ∀ k, k < 21 → parseFieldDescriptor (TX7 k).2.2.1 = some (tyX7 k) := by decide +kernel
abbrev cX7_init : ByteArray := prog_9_method_1_code
def yX7_init : MethodName := ⟨RX7, "<init>", "()V"⟩
abbrev cX7_in : ByteArray := prog_9_method_2_code
def yX7_in : MethodName := ⟨RX7, "in", "(III)Z"⟩
abbrev cX7_st : ByteArray := prog_9_method_3_code
def yX7_st : MethodName := ⟨RX7, "st", "(II)I"⟩
abbrev cX7_isStack : ByteArray := prog_9_method_4_code
def yX7_isStack : MethodName := ⟨RX7, "isStack", "(I)Z"⟩
abbrev cX7_hasSides : ByteArray := prog_9_method_5_code
def yX7_hasSides : MethodName := ⟨RX7, "hasSides", "(I)Z"⟩
abbrev cX7_keeps : ByteArray := prog_9_method_6_code
def yX7_keeps : MethodName := ⟨RX7, "keeps", "()V"⟩
abbrev cX7_acted : ByteArray := prog_9_method_7_code
def yX7_acted : MethodName := ⟨RX7, "acted", "(I)I"⟩
abbrev cX7_lays : ByteArray := prog_9_method_8_code
def yX7_lays : MethodName := ⟨RX7, "lays", "(II)V"⟩
abbrev cX7_looks : ByteArray := prog_9_method_9_code
def yX7_looks : MethodName := ⟨RX7, "looks", "(I)V"⟩
abbrev cX7_code : ByteArray := prog_9_method_10_code
def yX7_code : MethodName := ⟨RX7, "code", "()I"⟩
abbrev cX7_sides : ByteArray := prog_9_method_11_code
def yX7_sides : MethodName := ⟨RX7, "sides", "()I"⟩
abbrev cX7_isJoined : ByteArray := prog_9_method_12_code
def yX7_isJoined : MethodName := ⟨RX7, "isJoined", "(I)Z"⟩
abbrev cX7_gaps : ByteArray := prog_9_method_13_code
def yX7_gaps : MethodName := ⟨RX7, "gaps", "()I"⟩
abbrev cX7_isSorted : ByteArray := prog_9_method_14_code
def yX7_isSorted : MethodName := ⟨RX7, "isSorted", "()Z"⟩
abbrev cX7_can : ByteArray := prog_9_method_15_code
def yX7_can : MethodName := ⟨RX7, "can", "(I)Z"⟩
abbrev cX7_turns : ByteArray := prog_9_method_16_code
def yX7_turns : MethodName := ⟨RX7, "turns", "(I)V"⟩
abbrev cX7_factorial : ByteArray := prog_9_method_17_code
def yX7_factorial : MethodName := ⟨RX7, "factorial", "(I)I"⟩
abbrev cX7_all : ByteArray := prog_9_method_18_code
def yX7_all : MethodName := ⟨RX7, "all", "()I"⟩
abbrev cX7_rank : ByteArray := prog_9_method_19_code
def yX7_rank : MethodName := ⟨RX7, "rank", "()I"⟩
abbrev cX7_unranks : ByteArray := prog_9_method_20_code
def yX7_unranks : MethodName := ⟨RX7, "unranks", "(I)V"⟩
abbrev cX7_stack : ByteArray := prog_9_method_21_code
def yX7_stack : MethodName := ⟨RX7, "stack", "(III)I"⟩
abbrev cX7_isCode : ByteArray := prog_9_method_22_code
def yX7_isCode : MethodName := ⟨RX7, "isCode", "(II)Z"⟩
abbrev cX7_lay : ByteArray := prog_9_method_23_code
def yX7_lay : MethodName := ⟨RX7, "lay", "(III)I"⟩
abbrev cX7_turnsOne : ByteArray := prog_9_method_24_code
def yX7_turnsOne : MethodName := ⟨RX7, "turnsOne", "(II)I"⟩
abbrev cX7_turn : ByteArray := prog_9_method_25_code
def yX7_turn : MethodName := ⟨RX7, "turn", "(II)I"⟩
abbrev cX7_doRow : ByteArray := prog_9_method_26_code
def yX7_doRow : MethodName := ⟨RX7, "doRow", "(II)I"⟩
abbrev cX7_possible : ByteArray := prog_9_method_27_code
def yX7_possible : MethodName := ⟨RX7, "possible", "()I"⟩
abbrev cX7_stackOf : ByteArray := prog_9_method_28_code
def yX7_stackOf : MethodName := ⟨RX7, "stackOf", "(II)I"⟩
abbrev cX7_cakeAt : ByteArray := prog_9_method_29_code
def yX7_cakeAt : MethodName := ⟨RX7, "cakeAt", "(II)I"⟩
abbrev cX7_gapsBehind : ByteArray := prog_9_method_30_code
def yX7_gapsBehind : MethodName := ⟨RX7, "gapsBehind", "(II)I"⟩
abbrev cX7_leads : ByteArray := prog_9_method_31_code
def yX7_leads : MethodName := ⟨RX7, "leads", "(I)I"⟩
abbrev cX7_measures : ByteArray := prog_9_method_32_code
def yX7_measures : MethodName := ⟨RX7, "measures", "()V"⟩
abbrev cX7_fewest : ByteArray := prog_9_method_33_code
def yX7_fewest : MethodName := ⟨RX7, "fewest", "(II)I"⟩
abbrev cX7_leastWork : ByteArray := prog_9_method_34_code
def yX7_leastWork : MethodName := ⟨RX7, "leastWork", "(I)I"⟩
abbrev cX7_ways : ByteArray := prog_9_method_35_code
def yX7_ways : MethodName := ⟨RX7, "ways", "(II)I"⟩
abbrev cX7_gapsOf : ByteArray := prog_9_method_36_code
def yX7_gapsOf : MethodName := ⟨RX7, "gapsOf", "(I)I"⟩
abbrev cX7_lookedAt : ByteArray := prog_9_method_37_code
def yX7_lookedAt : MethodName := ⟨RX7, "lookedAt", "(II)I"⟩
abbrev cX7_placeOf : ByteArray := prog_9_method_38_code
def yX7_placeOf : MethodName := ⟨RX7, "placeOf", "(I)I"⟩
abbrev cX7_simpleTurn : ByteArray := prog_9_method_39_code
def yX7_simpleTurn : MethodName := ⟨RX7, "simpleTurn", "()I"⟩
abbrev cX7_simple : ByteArray := prog_9_method_40_code
def yX7_simple : MethodName := ⟨RX7, "simple", "(II)I"⟩
abbrev cX7_bestTurn : ByteArray := prog_9_method_41_code
def yX7_bestTurn : MethodName := ⟨RX7, "bestTurn", "(I)I"⟩
abbrev cX7_ranked : ByteArray := prog_9_method_42_code
def yX7_ranked : MethodName := ⟨RX7, "ranked", "(III)I"⟩
abbrev cX7_ofDistance : ByteArray := prog_9_method_43_code
def yX7_ofDistance : MethodName := ⟨RX7, "ofDistance", "(II)I"⟩
abbrev cX7_ofAll : ByteArray := prog_9_method_44_code
def yX7_ofAll : MethodName := ⟨RX7, "ofAll", "(I)I"⟩
abbrev cX7_count : ByteArray := prog_9_method_45_code
def yX7_count : MethodName := ⟨RX7, "count", "(I)I"⟩
abbrev cX7_undo : ByteArray := prog_9_method_46_code
def yX7_undo : MethodName := ⟨RX7, "undo", "()I"⟩
abbrev cX7_type : ByteArray := prog_9_method_47_code
def yX7_type : MethodName := ⟨RX7, "type", "(I)I"⟩
abbrev cX7_clearText : ByteArray := prog_9_method_48_code
def yX7_clearText : MethodName := ⟨RX7, "clearText", "()I"⟩
abbrev cX7_sign : ByteArray := prog_9_method_49_code
def yX7_sign : MethodName := ⟨RX7, "sign", "()I"⟩
abbrev cX7_does : ByteArray := prog_9_method_50_code
def yX7_does : MethodName := ⟨RX7, "does", "()Z"⟩
abbrev cX7_reads : ByteArray := prog_9_method_51_code
def yX7_reads : MethodName := ⟨RX7, "reads", "()I"⟩
abbrev cX7_faulty : ByteArray := prog_9_method_52_code
def yX7_faulty : MethodName := ⟨RX7, "faulty", "()I"⟩
abbrev cX7_fault : ByteArray := prog_9_method_53_code
def yX7_fault : MethodName := ⟨RX7, "fault", "(I)I"⟩
abbrev cX7_play : ByteArray := prog_9_method_54_code
def yX7_play : MethodName := ⟨RX7, "play", "()I"⟩
def RJ6 : String := "java/lang/Integer"
def TJ6 : u_T := fun k => match k with
  | _ => ("", "", "", false)
def tyJ6 : Nat → FieldType := fun k => match k with
  | _ => .int
abbrev wsJ60 : List Cond := u_ws RJ6 TJ6 0
theorem nmJ6 : ∀ a, a < 0 → ∀ b, b < 0 → a ≠ b → (TJ6 a).2.1 ≠ (TJ6 b).2.1 := by decide +kernel
theorem tyJ6_ok : ∀ k, k < 0 → parseFieldDescriptor (TJ6 k).2.2.1 = some (tyJ6 k) := by decide +kernel
abbrev cJ6_bitCount_0f7a4 : ByteArray := prog_10_method_49_code
def yJ6_bitCount_0f7a4 : MethodName := ⟨RJ6, "bitCount", "(I)I"⟩
def RJ9 : String := "java/lang/Math"
def TJ9 : u_T := fun k => match k with
  | _ => ("", "", "", false)
def tyJ9 : Nat → FieldType := fun k => match k with
  | _ => .int
abbrev wsJ90 : List Cond := u_ws RJ9 TJ9 0
theorem nmJ9 : ∀ a, a < 0 → ∀ b, b < 0 → a ≠ b → (TJ9 a).2.1 ≠ (TJ9 b).2.1 := by decide +kernel
theorem tyJ9_ok : ∀ k, k < 0 → parseFieldDescriptor (TJ9 k).2.2.1 = some (tyJ9 k) := by decide +kernel
abbrev cJ9_max_7cf53 : ByteArray := prog_11_method_65_code
def yJ9_max_7cf53 : MethodName := ⟨RJ9, "max", "(II)I"⟩
def RL : String := "TurnTopsLaw"
abbrev cL_law : ByteArray := code
def yL_law : MethodName := ⟨RL, "law", "([I)Z"⟩
def wsL_law_r1 : List Cond := [Cond.classLink RL 7 RX6, Cond.instantiable RX6 6, Cond.initialized RX6, Cond.classLink RL 10 RX7, Cond.instantiable RX7 21, Cond.initialized RX7, Cond.methodLink RL 9 yX6_init, Cond.instanceMethod yX6_init, Cond.code yX6_init cX6_init 2 none, Cond.methodLink RX6 1 objectInit, Cond.instanceMethod objectInit, Cond.code objectInit ⟨#[0xb1]⟩ 1 none, Cond.classLink RX6 7 RX3, Cond.instantiable RX3 3, Cond.initialized RX3, Cond.fieldLink RX6 10 "TurnTops" "shelf" "LTurnTops$Shelf;", Cond.classLink RX6 16 RX5, Cond.instantiable RX5 7, Cond.initialized RX5, Cond.fieldLink RX6 19 "TurnTops" "text" "LTurnTops$Text;", Cond.classLink RX6 23 RX0, Cond.instantiable RX0 7, Cond.initialized RX0, Cond.fieldLink RX6 26 "TurnTops" "now" "LTurnTops$Kitchen;"]
def wsL_law_r2 : List Cond := [Cond.fieldLink RX6 30 "TurnTops" "trial" "LTurnTops$Kitchen;", Cond.fieldLink RX6 33 "TurnTops" "history" "[LTurnTops$Kitchen;", Cond.fieldLink RX6 37 "TurnTops" "states" "I", Cond.instanceMethod yX3_init, Cond.code yX3_init cX3_init 1 none, Cond.methodLink RX3 3 objectInit, Cond.classLink RX3 9 RX1, Cond.fieldLink RX3 11 "TurnTops$Shelf" "plainLayouts" "[LTurnTops$Layouts;", Cond.fieldLink RX3 17 "TurnTops$Shelf" "sidedLayouts" "[LTurnTops$Layouts;", Cond.classLink RX3 20 RX2, Cond.fieldLink RX3 22 "TurnTops$Shelf" "shapes" "[LTurnTops$Shape;", Cond.instanceMethod yX5_init, Cond.code yX5_init cX5_init 1 none, Cond.methodLink RX5 3 objectInit, Cond.fieldLink RX5 9 "TurnTops$Text" "length" "I", Cond.fieldLink RX5 15 "TurnTops$Text" "reason" "I", Cond.fieldLink RX5 18 "TurnTops$Text" "faultPlace" "I", Cond.fieldLink RX5 21 "TurnTops$Text" "turns" "I", Cond.arrayClass .int, Cond.fieldLink RX5 24 "TurnTops$Text" "signs" "[I", Cond.fieldLink RX5 28 "TurnTops$Text" "openStack" "I", Cond.fieldLink RX5 31 "TurnTops$Text" "turnsOfOrder" "I", Cond.instanceMethod yX0_init, Cond.code yX0_init cX0_init 1 none]
def wsL_law_r3 : List Cond := [Cond.methodLink RX0 3 objectInit, Cond.fieldLink RX0 9 "TurnTops$Kitchen" "stacks" "I", Cond.fieldLink RX0 15 "TurnTops$Kitchen" "hand" "I", Cond.fieldLink RX0 18 "TurnTops$Kitchen" "handTurns" "[I", Cond.fieldLink RX0 22 "TurnTops$Kitchen" "handWork" "[I", Cond.classLink RX0 25 RX2, Cond.fieldLink RX0 27 "TurnTops$Kitchen" "shapes" "[LTurnTops$Shape;", Cond.fieldLink RX0 31 "TurnTops$Kitchen" "ranks" "[I", Cond.fieldLink RX0 34 "TurnTops$Kitchen" "made" "[I", Cond.methodLink RL 12 yX7_init, Cond.instanceMethod yX7_init, Cond.code yX7_init cX7_init 1 none, Cond.methodLink RX7 1 objectInit, Cond.fieldLink RX7 7 "TurnTopsModel" "s" "[I", Cond.fieldLink RX7 13 "TurnTopsModel" "was" "[I", Cond.fieldLink RX7 16 "TurnTopsModel" "begun" "[I", Cond.fieldLink RX7 19 "TurnTopsModel" "aside" "[I", Cond.arrayClass .char, Cond.fieldLink RX7 22 "TurnTopsModel" "text" "[C", Cond.fieldLink RX7 26 "TurnTopsModel" "size" "[I", Cond.fieldLink RX7 29 "TurnTopsModel" "burnt" "[I", Cond.fieldLink RX7 32 "TurnTopsModel" "next" "[I", Cond.fieldLink RX7 35 "TurnTopsModel" "far" "[I", Cond.fieldLink RX7 38 "TurnTopsModel" "then" "[I"]
def wsL_law_r4 : List Cond := [Cond.fieldLink RX7 41 "TurnTopsModel" "queue" "[I", Cond.fieldLink RX7 44 "TurnTopsModel" "rankAt" "[I", Cond.fieldLink RX7 47 "TurnTopsModel" "turnAt" "[I", Cond.methodLink RL 13 yX6_stack, Cond.instanceMethod yX6_stack, Cond.selects RX6 yX6_stack yX6_stack, Cond.code yX6_stack cX6_stack 6 (some .int), Cond.constant RX6 45 (-1000001), Cond.constant RX6 54 (-1000003), Cond.methodLink RX6 41 yX3_shape, Cond.instanceMethod yX3_shape, Cond.selects RX3 yX3_shape yX3_shape, Cond.code yX3_shape cX3_shape 6 (some (.object "TurnTops$Shape")), Cond.instantiable RX2 6, Cond.initialized RX2, Cond.methodLink RX3 26 yX3_mostCakes, Cond.static yX3_mostCakes, Cond.code yX3_mostCakes cX3_mostCakes 1 (some .int), Cond.methodLink RX3 30 yX3_isSided, Cond.static yX3_isSided, Cond.code yX3_isSided cX3_isSided 1 (some .boolean), Cond.methodLink RX3 34 yX3_layouts, Cond.instanceMethod yX3_layouts, Cond.selects RX3 yX3_layouts yX3_layouts]
def wsL_law_r5 : List Cond := [Cond.code yX3_layouts cX3_layouts 4 (some (.object "TurnTops$Layouts")), Cond.instantiable RX1 8, Cond.initialized RX1, Cond.methodLink RX3 41 yX1_init, Cond.instanceMethod yX1_init, Cond.code yX1_init cX1_init 6 none, Cond.methodLink RX1 3 objectInit, Cond.fieldLink RX1 9 "TurnTops$Layouts" "cakes" "I", Cond.fieldLink RX1 15 "TurnTops$Layouts" "sideBits" "I", Cond.fieldLink RX1 18 "TurnTops$Layouts" "allSides" "I", Cond.fieldLink RX1 21 "TurnTops$Layouts" "ranks" "I", Cond.fieldLink RX1 28 "TurnTops$Layouts" "codes" "[I", Cond.fieldLink RX1 32 "TurnTops$Layouts" "sizes" "[I", Cond.fieldLink RX1 35 "TurnTops$Layouts" "turned" "[I", Cond.fieldLink RX1 38 "TurnTops$Layouts" "joined" "[I", Cond.static yX6_newRow, Cond.code yX6_newRow cX6_newRow 1 (some (.array .int)), Cond.methodLink RX6 213 Lib.Math.max.name, Cond.static Lib.Math.max.name, Cond.initialized "java/lang/Math", Cond.code Lib.Math.max.name Lib.Math.max.code 2 (some .int), Cond.methodLink RX1 41 yX1_fillCodes, Cond.static yX1_fillCodes, Cond.code yX1_fillCodes cX1_fillCodes 8 (some .int)]
def wsL_law_r6 : List Cond := [Cond.static yX6_put, Cond.code yX6_put cX6_put 3 none, Cond.methodLink RX1 45 yX1_fillSizes, Cond.instanceMethod yX1_fillSizes, Cond.selects RX1 yX1_fillSizes yX1_fillSizes, Cond.code yX1_fillSizes cX1_fillSizes 4 none, Cond.static yX6_at, Cond.code yX6_at cX6_at 2 (some .int), Cond.methodLink RX1 49 yX1_fillTurned, Cond.instanceMethod yX1_fillTurned, Cond.selects RX1 yX1_fillTurned yX1_fillTurned, Cond.code yX1_fillTurned cX1_fillTurned 6 none, Cond.methodLink RX1 64 yX1_codeBehind, Cond.instanceMethod yX1_codeBehind, Cond.selects RX1 yX1_codeBehind yX1_codeBehind, Cond.code yX1_codeBehind cX1_codeBehind 6 (some .int), Cond.methodLink RX1 68 yX1_orderOf, Cond.instanceMethod yX1_orderOf, Cond.selects RX1 yX1_orderOf yX1_orderOf, Cond.code yX1_orderOf cX1_orderOf 7 (some .int), Cond.methodLink RX1 72 yX1_sidesBehind, Cond.instanceMethod yX1_sidesBehind, Cond.selects RX1 yX1_sidesBehind yX1_sidesBehind, Cond.code yX1_sidesBehind cX1_sidesBehind 6 (some .int)]
def wsL_law_r7 : List Cond := [Cond.methodLink RX1 52 yX1_findJoined, Cond.instanceMethod yX1_findJoined, Cond.selects RX1 yX1_findJoined yX1_findJoined, Cond.code yX1_findJoined cX1_findJoined 6 (some .boolean), Cond.methodLink RX1 75 yX1_sizeAt, Cond.instanceMethod yX1_sizeAt, Cond.selects RX1 yX1_sizeAt yX1_sizeAt, Cond.code yX1_sizeAt cX1_sizeAt 3 (some .int), Cond.methodLink RX1 78 yX1_isBurnt, Cond.instanceMethod yX1_isBurnt, Cond.selects RX1 yX1_isBurnt yX1_isBurnt, Cond.code yX1_isBurnt cX1_isBurnt 3 (some .boolean), Cond.methodLink RX3 38 yX2_init, Cond.instanceMethod yX2_init, Cond.code yX2_init cX2_init 5 none, Cond.methodLink RX2 3 objectInit, Cond.fieldLink RX2 9 "TurnTops$Shape" "solver" "LTurnTops$Solver;", Cond.fieldLink RX2 15 "TurnTops$Shape" "kind" "I", Cond.fieldLink RX2 19 "TurnTops$Shape" "strength" "I", Cond.fieldLink RX2 22 "TurnTops$Shape" "layouts" "LTurnTops$Layouts;", Cond.fieldLink RX2 26 "TurnTops$Layouts" "cakes" "I", Cond.fieldLink RX2 31 "TurnTops$Shape" "cakes" "I", Cond.fieldLink RX2 32 "TurnTops$Layouts" "ranks" "I", Cond.fieldLink RX2 39 "TurnTops$Shape" "possible" "[I"]
def wsL_law_r8 : List Cond := [Cond.methodLink RX2 43 yX2_findPossible, Cond.instanceMethod yX2_findPossible, Cond.selects RX2 yX2_findPossible yX2_findPossible, Cond.code yX2_findPossible cX2_findPossible 7 (some .int), Cond.methodLink RX2 47 yX1_sizeAt, Cond.methodLink RX2 51 yX1_isJoined, Cond.instanceMethod yX1_isJoined, Cond.selects RX1 yX1_isJoined yX1_isJoined, Cond.code yX1_isJoined cX1_isJoined 3 (some .boolean), Cond.methodLink RX6 46 yX0_copyFrom, Cond.instanceMethod yX0_copyFrom, Cond.selects RX0 yX0_copyFrom yX0_copyFrom, Cond.code yX0_copyFrom cX0_copyFrom 3 none, Cond.static yX6_copy, Cond.code yX6_copy cX6_copy 3 none, Cond.methodLink RX6 50 yX0_add, Cond.instanceMethod yX0_add, Cond.selects RX0 yX0_add yX0_add, Cond.code yX0_add cX0_add 3 (some .int), Cond.methodLink RX6 55 yX6_keepTrial, Cond.instanceMethod yX6_keepTrial, Cond.selects RX6 yX6_keepTrial yX6_keepTrial, Cond.code yX6_keepTrial cX6_keepTrial 2 none, Cond.methodLink RX6 210 yX6_dropOldestState]
def wsL_law_r9 : List Cond := [Cond.instanceMethod yX6_dropOldestState, Cond.selects RX6 yX6_dropOldestState yX6_dropOldestState, Cond.code yX6_dropOldestState cX6_dropOldestState 3 none, Cond.methodLink RX6 187 yX6_stateAt, Cond.instanceMethod yX6_stateAt, Cond.selects RX6 yX6_stateAt yX6_stateAt, Cond.code yX6_stateAt cX6_stateAt 2 (some (.object "TurnTops$Kitchen")), Cond.methodLink RL 17 yX7_stack, Cond.instanceMethod yX7_stack, Cond.selects RX7 yX7_stack yX7_stack, Cond.code yX7_stack cX7_stack 6 (some .int), Cond.constant RX7 54 (-1000001), Cond.constant RX7 91 (-1000003), Cond.methodLink RX7 50 yX7_in, Cond.static yX7_in, Cond.code yX7_in cX7_in 3 (some .boolean), Cond.methodLink RX7 76 yX7_hasSides, Cond.static yX7_hasSides, Cond.code yX7_hasSides cX7_hasSides 1 (some .boolean), Cond.methodLink RX7 92 yX7_keeps, Cond.instanceMethod yX7_keeps, Cond.selects RX7 yX7_keeps yX7_keeps, Cond.code yX7_keeps cX7_keeps 2 none, Cond.methodLink RX7 95 yX7_acted]
def wsL_law_r10 : List Cond := [Cond.instanceMethod yX7_acted, Cond.selects RX7 yX7_acted yX7_acted, Cond.code yX7_acted cX7_acted 3 (some .int), Cond.fieldLink RX7 55 "TurnTopsModel" "states" "I", Cond.methodLink RL 18 yX6_lay, Cond.instanceMethod yX6_lay, Cond.selects RX6 yX6_lay yX6_lay, Cond.code yX6_lay cX6_lay 6 (some .int), Cond.fieldLink RX6 62 "TurnTops$Shape" "layouts" "LTurnTops$Layouts;", Cond.methodLink RX6 58 yX0_shapeOf, Cond.instanceMethod yX0_shapeOf, Cond.selects RX0 yX0_shapeOf yX0_shapeOf, Cond.code yX0_shapeOf cX0_shapeOf 2 (some (.object "TurnTops$Shape")), Cond.methodLink RX6 68 yX1_rankOf, Cond.instanceMethod yX1_rankOf, Cond.selects RX1 yX1_rankOf yX1_rankOf, Cond.code yX1_rankOf cX1_rankOf 4 (some .int), Cond.methodLink RX6 74 yX0_putRank, Cond.instanceMethod yX0_putRank, Cond.selects RX0 yX0_putRank yX0_putRank, Cond.code yX0_putRank cX0_putRank 3 none, Cond.methodLink RX6 78 yX1_gaps, Cond.instanceMethod yX1_gaps, Cond.selects RX1 yX1_gaps yX1_gaps]
def wsL_law_r11 : List Cond := [Cond.code yX1_gaps cX1_gaps 2 (some .int), Cond.methodLink RX1 81 yJ6_bitCount_0f7a4, Cond.static yJ6_bitCount_0f7a4, Cond.initialized RJ6, Cond.code yJ6_bitCount_0f7a4 cJ6_bitCount_0f7a4 1 (some .int), Cond.constant RJ6 265 (1431655765), Cond.constant RJ6 266 (858993459), Cond.constant RJ6 267 (252645135), Cond.methodLink RL 21 yX7_lay, Cond.instanceMethod yX7_lay, Cond.selects RX7 yX7_lay yX7_lay, Cond.code yX7_lay cX7_lay 4 (some .int), Cond.methodLink RX7 98 yX7_isStack, Cond.instanceMethod yX7_isStack, Cond.selects RX7 yX7_isStack yX7_isStack, Cond.code yX7_isStack cX7_isStack 2 (some .boolean), Cond.methodLink RX7 62 yX7_st, Cond.instanceMethod yX7_st, Cond.selects RX7 yX7_st yX7_st, Cond.code yX7_st cX7_st 3 (some .int), Cond.methodLink RX7 101 yX7_isCode, Cond.static yX7_isCode, Cond.code yX7_isCode cX7_isCode 5 (some .boolean), Cond.methodLink RX7 105 yX7_looks]
def wsL_law_r12 : List Cond := [Cond.instanceMethod yX7_looks, Cond.selects RX7 yX7_looks yX7_looks, Cond.code yX7_looks cX7_looks 2 none, Cond.fieldLink RX7 66 "TurnTopsModel" "kind" "I", Cond.fieldLink RX7 59 "TurnTopsModel" "n" "I", Cond.fieldLink RX7 69 "TurnTopsModel" "strength" "I", Cond.methodLink RX7 72 yX7_lays, Cond.instanceMethod yX7_lays, Cond.selects RX7 yX7_lays yX7_lays, Cond.code yX7_lays cX7_lays 5 none, Cond.methodLink RX7 109 yX7_gaps, Cond.instanceMethod yX7_gaps, Cond.selects RX7 yX7_gaps yX7_gaps, Cond.code yX7_gaps cX7_gaps 3 (some .int), Cond.methodLink RX7 80 yX7_isJoined, Cond.instanceMethod yX7_isJoined, Cond.selects RX7 yX7_isJoined yX7_isJoined, Cond.code yX7_isJoined cX7_isJoined 3 (some .boolean), Cond.methodLink RL 22 yX6_turn, Cond.instanceMethod yX6_turn, Cond.selects RX6 yX6_turn yX6_turn, Cond.code yX6_turn cX6_turn 4 (some .int), Cond.fieldLink RX6 82 "TurnTops$Shape" "cakes" "I", Cond.constant RX6 89 (-1000002)]
def wsL_law_r13 : List Cond := [Cond.methodLink RX6 85 yX0_makeTurn, Cond.instanceMethod yX0_makeTurn, Cond.selects RX0 yX0_makeTurn yX0_makeTurn, Cond.code yX0_makeTurn cX0_makeTurn 4 (some .boolean), Cond.fieldLink RX0 61 "TurnTops$Shape" "layouts" "LTurnTops$Layouts;", Cond.methodLink RX0 49 yX0_shapeOf, Cond.methodLink RX0 53 yX0_rankOf, Cond.instanceMethod yX0_rankOf, Cond.selects RX0 yX0_rankOf yX0_rankOf, Cond.code yX0_rankOf cX0_rankOf 2 (some .int), Cond.methodLink RX0 57 yX2_allows, Cond.instanceMethod yX2_allows, Cond.selects RX2 yX2_allows yX2_allows, Cond.code yX2_allows cX2_allows 3 (some .boolean), Cond.methodLink RX0 65 yX1_behind, Cond.instanceMethod yX1_behind, Cond.selects RX1 yX1_behind yX1_behind, Cond.code yX1_behind cX1_behind 3 (some .int), Cond.methodLink RX0 71 yX0_putRank, Cond.methodLink RX0 75 yX0_madeOf, Cond.instanceMethod yX0_madeOf, Cond.selects RX0 yX0_madeOf yX0_madeOf, Cond.code yX0_madeOf cX0_madeOf 2 (some .int), Cond.methodLink RX6 90 yX0_rankOf]
def wsL_law_r14 : List Cond := [Cond.methodLink RL 26 yX7_turn, Cond.instanceMethod yX7_turn, Cond.selects RX7 yX7_turn yX7_turn, Cond.code yX7_turn cX7_turn 3 (some .int), Cond.methodLink RX7 122 yX7_turnsOne, Cond.instanceMethod yX7_turnsOne, Cond.selects RX7 yX7_turnsOne yX7_turnsOne, Cond.code yX7_turnsOne cX7_turnsOne 3 (some .int), Cond.constant RX7 115 (-1000002), Cond.methodLink RX7 112 yX7_can, Cond.instanceMethod yX7_can, Cond.selects RX7 yX7_can yX7_can, Cond.code yX7_can cX7_can 4 (some .boolean), Cond.methodLink RX7 116 yX7_turns, Cond.instanceMethod yX7_turns, Cond.selects RX7 yX7_turns yX7_turns, Cond.code yX7_turns cX7_turns 7 none, Cond.methodLink RX7 119 yX7_code, Cond.instanceMethod yX7_code, Cond.selects RX7 yX7_code yX7_code, Cond.code yX7_code cX7_code 3 (some .int), Cond.methodLink RX7 87 yX7_sides, Cond.instanceMethod yX7_sides, Cond.selects RX7 yX7_sides yX7_sides]
def wsL_law_r15 : List Cond := [Cond.code yX7_sides cX7_sides 3 (some .int), Cond.methodLink RL 27 yX6_doRow, Cond.instanceMethod yX6_doRow, Cond.selects RX6 yX6_doRow yX6_doRow, Cond.code yX6_doRow cX6_doRow 4 (some .int), Cond.constant RX6 92 (99999999), Cond.methodLink RX6 93 yX0_makeRow, Cond.instanceMethod yX0_makeRow, Cond.selects RX0 yX0_makeRow yX0_makeRow, Cond.code yX0_makeRow cX0_makeRow 4 (some .boolean), Cond.constant RX0 78 (10000000), Cond.methodLink RX0 79 yX0_makeTurn, Cond.methodLink RL 30 yX7_doRow, Cond.instanceMethod yX7_doRow, Cond.selects RX7 yX7_doRow yX7_doRow, Cond.code yX7_doRow cX7_doRow 6 (some .int), Cond.constant RX7 125 (99999999), Cond.methodLink RL 31 yX6_stackOf, Cond.instanceMethod yX6_stackOf, Cond.selects RX6 yX6_stackOf yX6_stackOf, Cond.code yX6_stackOf cX6_stackOf 5 (some .int), Cond.fieldLink RX6 96 "TurnTops$Shape" "kind" "I", Cond.fieldLink RX6 99 "TurnTops$Shape" "strength" "I", Cond.methodLink RX6 102 yX1_codeOf]
def wsL_law_r16 : List Cond := [Cond.instanceMethod yX1_codeOf, Cond.selects RX1 yX1_codeOf yX1_codeOf, Cond.code yX1_codeOf cX1_codeOf 2 (some .int), Cond.methodLink RX6 105 yX1_sidesOf, Cond.instanceMethod yX1_sidesOf, Cond.selects RX1 yX1_sidesOf yX1_sidesOf, Cond.code yX1_sidesOf cX1_sidesOf 2 (some .int), Cond.methodLink RX6 108 yX2_possibleTurns, Cond.instanceMethod yX2_possibleTurns, Cond.selects RX2 yX2_possibleTurns yX2_possibleTurns, Cond.code yX2_possibleTurns cX2_possibleTurns 2 (some .int), Cond.methodLink RX6 111 yX0_madeOf, Cond.methodLink RL 34 yX7_stackOf, Cond.instanceMethod yX7_stackOf, Cond.selects RX7 yX7_stackOf yX7_stackOf, Cond.code yX7_stackOf cX7_stackOf 3 (some .int), Cond.methodLink RX7 126 yX7_isSorted, Cond.instanceMethod yX7_isSorted, Cond.selects RX7 yX7_isSorted yX7_isSorted, Cond.code yX7_isSorted cX7_isSorted 3 (some .boolean), Cond.methodLink RX7 130 yX7_rank, Cond.instanceMethod yX7_rank, Cond.selects RX7 yX7_rank yX7_rank, Cond.code yX7_rank cX7_rank 5 (some .int)]
def wsL_law_r17 : List Cond := [Cond.methodLink RX7 133 yX7_possible, Cond.instanceMethod yX7_possible, Cond.selects RX7 yX7_possible yX7_possible, Cond.code yX7_possible cX7_possible 3 (some .int), Cond.methodLink RL 35 yX6_cakeAt, Cond.instanceMethod yX6_cakeAt, Cond.selects RX6 yX6_cakeAt yX6_cakeAt, Cond.code yX6_cakeAt cX6_cakeAt 6 (some .int), Cond.methodLink RX6 114 yX1_sizeAt, Cond.methodLink RX6 117 yX1_isBurnt, Cond.methodLink RL 38 yX7_cakeAt, Cond.instanceMethod yX7_cakeAt, Cond.selects RX7 yX7_cakeAt yX7_cakeAt, Cond.code yX7_cakeAt cX7_cakeAt 3 (some .int), Cond.methodLink RL 39 yX6_gapsBehind, Cond.instanceMethod yX6_gapsBehind, Cond.selects RX6 yX6_gapsBehind yX6_gapsBehind, Cond.code yX6_gapsBehind cX6_gapsBehind 4 (some .int), Cond.methodLink RX6 120 yX1_behind, Cond.methodLink RL 42 yX7_gapsBehind, Cond.instanceMethod yX7_gapsBehind, Cond.selects RX7 yX7_gapsBehind yX7_gapsBehind, Cond.code yX7_gapsBehind cX7_gapsBehind 3 (some .int), Cond.methodLink RL 43 yX6_fewest]
def wsL_law_r18 : List Cond := [Cond.instanceMethod yX6_fewest, Cond.selects RX6 yX6_fewest yX6_fewest, Cond.code yX6_fewest cX6_fewest 7 (some .int), Cond.constant RX6 132 (-1000004), Cond.methodLink RX6 123 yX2_solver, Cond.instanceMethod yX2_solver, Cond.selects RX2 yX2_solver yX2_solver, Cond.code yX2_solver cX2_solver 1 (some (.object "TurnTops$Solver")), Cond.classLink RX2 55 RX4, Cond.instantiable RX4 6, Cond.initialized RX4, Cond.methodLink RX2 57 yX4_init, Cond.instanceMethod yX4_init, Cond.code yX4_init cX4_init 2 none, Cond.methodLink RX4 3 objectInit, Cond.fieldLink RX4 9 "TurnTops$Solver" "turnsKnown" "Z", Cond.fieldLink RX4 15 "TurnTops$Solver" "workKnown" "Z", Cond.fieldLink RX4 18 "TurnTops$Solver" "shape" "LTurnTops$Shape;", Cond.fieldLink RX4 22 "TurnTops$Shape" "layouts" "LTurnTops$Layouts;", Cond.fieldLink RX4 28 "TurnTops$Solver" "layouts" "LTurnTops$Layouts;", Cond.fieldLink RX4 29 "TurnTops$Layouts" "ranks" "I", Cond.fieldLink RX4 39 "TurnTops$Solver" "turnCosts" "[I", Cond.fieldLink RX4 43 "TurnTops$Solver" "workCosts" "[I", Cond.methodLink RX6 127 yX4_turnsFrom]
def wsL_law_r19 : List Cond := [Cond.instanceMethod yX4_turnsFrom, Cond.selects RX4 yX4_turnsFrom yX4_turnsFrom, Cond.code yX4_turnsFrom cX4_turnsFrom 2 (some .int), Cond.methodLink RX4 46 yX4_fillCosts, Cond.instanceMethod yX4_fillCosts, Cond.selects RX4 yX4_fillCosts yX4_fillCosts, Cond.code yX4_fillCosts cX4_fillCosts 6 none, Cond.methodLink RX4 80 Lib.Math.max.name, Cond.methodLink RX4 76 yX4_spreadCost, Cond.instanceMethod yX4_spreadCost, Cond.selects RX4 yX4_spreadCost yX4_spreadCost, Cond.code yX4_spreadCost cX4_spreadCost 9 (some .int), Cond.fieldLink RX4 65 "TurnTops$Shape" "cakes" "I", Cond.methodLink RX4 62 yX1_behind, Cond.methodLink RX4 68 yX2_allows, Cond.methodLink RX6 133 yX4_firstRow, Cond.instanceMethod yX4_firstRow, Cond.selects RX4 yX4_firstRow yX4_firstRow, Cond.code yX4_firstRow cX4_firstRow 6 (some .int), Cond.methodLink RX4 54 yX4_turnsFrom, Cond.methodLink RX4 58 yX4_firstTurnToward, Cond.instanceMethod yX4_firstTurnToward, Cond.selects RX4 yX4_firstTurnToward yX4_firstTurnToward, Cond.code yX4_firstTurnToward cX4_firstTurnToward 4 (some .int)]
def wsL_law_r20 : List Cond := [Cond.methodLink RL 46 yX7_fewest, Cond.instanceMethod yX7_fewest, Cond.selects RX7 yX7_fewest yX7_fewest, Cond.code yX7_fewest cX7_fewest 6 (some .int), Cond.constant RX7 149 (-1000004), Cond.methodLink RX7 143 yX7_leads, Cond.instanceMethod yX7_leads, Cond.selects RX7 yX7_leads yX7_leads, Cond.code yX7_leads cX7_leads 6 (some .int), Cond.methodLink RX7 136 yX7_all, Cond.instanceMethod yX7_all, Cond.selects RX7 yX7_all yX7_all, Cond.code yX7_all cX7_all 1 (some .int), Cond.methodLink RX7 83 yX7_factorial, Cond.static yX7_factorial, Cond.code yX7_factorial cX7_factorial 3 (some .int), Cond.methodLink RX7 139 yX7_unranks, Cond.instanceMethod yX7_unranks, Cond.selects RX7 yX7_unranks yX7_unranks, Cond.code yX7_unranks cX7_unranks 9 none, Cond.methodLink RX7 146 yX7_measures, Cond.instanceMethod yX7_measures, Cond.selects RX7 yX7_measures yX7_measures, Cond.code yX7_measures cX7_measures 6 none]
def wsL_law_r21 : List Cond := [Cond.constant RX7 142 (1000000), Cond.methodLink RL 47 yX6_leastWork, Cond.instanceMethod yX6_leastWork, Cond.selects RX6 yX6_leastWork yX6_leastWork, Cond.code yX6_leastWork cX6_leastWork 4 (some .int), Cond.methodLink RX6 136 yX4_workFrom, Cond.instanceMethod yX4_workFrom, Cond.selects RX4 yX4_workFrom yX4_workFrom, Cond.code yX4_workFrom cX4_workFrom 2 (some .int), Cond.methodLink RL 51 yX7_leastWork, Cond.instanceMethod yX7_leastWork, Cond.selects RX7 yX7_leastWork yX7_leastWork, Cond.code yX7_leastWork cX7_leastWork 7 (some .int), Cond.methodLink RL 52 yX6_ways, Cond.instanceMethod yX6_ways, Cond.selects RX6 yX6_ways yX6_ways, Cond.code yX6_ways cX6_ways 4 (some .int), Cond.methodLink RX6 139 yX4_sortingRows, Cond.instanceMethod yX4_sortingRows, Cond.selects RX4 yX4_sortingRows yX4_sortingRows, Cond.code yX4_sortingRows cX4_sortingRows 3 (some .int), Cond.methodLink RX4 85 yX4_countSorting, Cond.static yX4_countSorting, Cond.code yX4_countSorting cX4_countSorting 5 (some .int)]
def wsL_law_r22 : List Cond := [Cond.methodLink RX4 89 yX1_gaps, Cond.methodLink RL 55 yX7_ways, Cond.instanceMethod yX7_ways, Cond.selects RX7 yX7_ways yX7_ways, Cond.code yX7_ways cX7_ways 7 (some .int), Cond.methodLink RL 56 yX6_lookedAt, Cond.instanceMethod yX6_lookedAt, Cond.selects RX6 yX6_lookedAt yX6_lookedAt, Cond.code yX6_lookedAt cX6_lookedAt 4 (some .int), Cond.methodLink RX6 142 yX4_searchedRows, Cond.instanceMethod yX4_searchedRows, Cond.selects RX4 yX4_searchedRows yX4_searchedRows, Cond.code yX4_searchedRows cX4_searchedRows 3 (some .int), Cond.methodLink RX4 92 yX4_countSearched, Cond.static yX4_countSearched, Cond.code yX4_countSearched cX4_countSearched 6 (some .int), Cond.methodLink RL 59 yX7_lookedAt, Cond.instanceMethod yX7_lookedAt, Cond.selects RX7 yX7_lookedAt yX7_lookedAt, Cond.code yX7_lookedAt cX7_lookedAt 9 (some .int), Cond.methodLink RX7 150 yX7_gapsOf, Cond.instanceMethod yX7_gapsOf, Cond.selects RX7 yX7_gapsOf yX7_gapsOf, Cond.code yX7_gapsOf cX7_gapsOf 2 (some .int)]
def wsL_law_r23 : List Cond := [Cond.methodLink RL 60 yX6_simple, Cond.instanceMethod yX6_simple, Cond.selects RX6 yX6_simple yX6_simple, Cond.code yX6_simple cX6_simple 4 (some .int), Cond.methodLink RX6 145 yX4_simpleWay, Cond.instanceMethod yX4_simpleWay, Cond.selects RX4 yX4_simpleWay yX4_simpleWay, Cond.code yX4_simpleWay cX4_simpleWay 9 (some .int), Cond.methodLink RX4 96 yX1_simpleTurn, Cond.instanceMethod yX1_simpleTurn, Cond.selects RX1 yX1_simpleTurn yX1_simpleTurn, Cond.code yX1_simpleTurn cX1_simpleTurn 4 (some .int), Cond.methodLink RX1 86 yX1_placeOf, Cond.instanceMethod yX1_placeOf, Cond.selects RX1 yX1_placeOf yX1_placeOf, Cond.code yX1_placeOf cX1_placeOf 4 (some .int), Cond.methodLink RX1 89 yX1_simpleTurnFor, Cond.instanceMethod yX1_simpleTurnFor, Cond.selects RX1 yX1_simpleTurnFor yX1_simpleTurnFor, Cond.code yX1_simpleTurnFor cX1_simpleTurnFor 4 (some .int), Cond.methodLink RL 63 yX7_simple, Cond.instanceMethod yX7_simple, Cond.selects RX7 yX7_simple yX7_simple, Cond.code yX7_simple cX7_simple 7 (some .int)]
def wsL_law_r24 : List Cond := [Cond.methodLink RX7 156 yX7_simpleTurn, Cond.instanceMethod yX7_simpleTurn, Cond.selects RX7 yX7_simpleTurn yX7_simpleTurn, Cond.code yX7_simpleTurn cX7_simpleTurn 3 (some .int), Cond.methodLink RX7 153 yX7_placeOf, Cond.instanceMethod yX7_placeOf, Cond.selects RX7 yX7_placeOf yX7_placeOf, Cond.code yX7_placeOf cX7_placeOf 3 (some .int), Cond.methodLink RL 64 yX6_bestTurn, Cond.instanceMethod yX6_bestTurn, Cond.selects RX6 yX6_bestTurn yX6_bestTurn, Cond.code yX6_bestTurn cX6_bestTurn 4 (some .int), Cond.methodLink RX6 148 yX2_turnToFewestGaps, Cond.instanceMethod yX2_turnToFewestGaps, Cond.selects RX2 yX2_turnToFewestGaps yX2_turnToFewestGaps, Cond.code yX2_turnToFewestGaps cX2_turnToFewestGaps 6 (some .int), Cond.methodLink RX2 64 yX2_allows, Cond.methodLink RX2 67 yX1_behind, Cond.methodLink RX2 70 yX1_gaps, Cond.methodLink RL 67 yX7_bestTurn, Cond.instanceMethod yX7_bestTurn, Cond.selects RX7 yX7_bestTurn yX7_bestTurn, Cond.code yX7_bestTurn cX7_bestTurn 7 (some .int), Cond.methodLink RL 68 yX6_ranked]
def wsL_law_r25 : List Cond := [Cond.instanceMethod yX6_ranked, Cond.selects RX6 yX6_ranked yX6_ranked, Cond.code yX6_ranked cX6_ranked 5 (some .int), Cond.fieldLink RX6 151 "TurnTops$Layouts" "ranks" "I", Cond.methodLink RL 71 yX7_ranked, Cond.instanceMethod yX7_ranked, Cond.selects RX7 yX7_ranked yX7_ranked, Cond.code yX7_ranked cX7_ranked 4 (some .int), Cond.methodLink RL 72 yX6_ofDistance, Cond.instanceMethod yX6_ofDistance, Cond.selects RX6 yX6_ofDistance yX6_ofDistance, Cond.code yX6_ofDistance cX6_ofDistance 4 (some .int), Cond.methodLink RX6 154 yX4_stacksWithTurns, Cond.instanceMethod yX4_stacksWithTurns, Cond.selects RX4 yX4_stacksWithTurns yX4_stacksWithTurns, Cond.code yX4_stacksWithTurns cX4_stacksWithTurns 4 (some .int), Cond.methodLink RL 75 yX7_ofDistance, Cond.instanceMethod yX7_ofDistance, Cond.selects RX7 yX7_ofDistance yX7_ofDistance, Cond.code yX7_ofDistance cX7_ofDistance 5 (some .int), Cond.methodLink RL 76 yX6_count, Cond.instanceMethod yX6_count, Cond.selects RX6 yX6_count yX6_count, Cond.code yX6_count cX6_count 2 (some .int)]
def wsL_law_r26 : List Cond := [Cond.fieldLink RX6 157 "TurnTops$Kitchen" "stacks" "I", Cond.fieldLink RX6 167 "TurnTops$Kitchen" "hand" "I", Cond.fieldLink RX6 170 "TurnTops$Kitchen" "handTurns" "[I", Cond.fieldLink RX6 178 "TurnTops$Kitchen" "handWork" "[I", Cond.fieldLink RX6 184 "TurnTops$Text" "length" "I", Cond.methodLink RX6 160 yX0_sortedStacks, Cond.instanceMethod yX0_sortedStacks, Cond.selects RX0 yX0_sortedStacks yX0_sortedStacks, Cond.code yX0_sortedStacks cX0_sortedStacks 3 (some .int), Cond.methodLink RX6 164 yX0_allGaps, Cond.instanceMethod yX0_allGaps, Cond.selects RX0 yX0_allGaps yX0_allGaps, Cond.code yX0_allGaps cX0_allGaps 4 (some .int), Cond.methodLink RX0 82 yX1_gaps, Cond.methodLink RX6 174 yX6_at, Cond.methodLink RX6 181 yX0_allTurns, Cond.instanceMethod yX0_allTurns, Cond.selects RX0 yX0_allTurns yX0_allTurns, Cond.code yX0_allTurns cX0_allTurns 3 (some .int), Cond.methodLink RL 79 yX7_count, Cond.instanceMethod yX7_count, Cond.selects RX7 yX7_count yX7_count, Cond.code yX7_count cX7_count 2 (some .int), Cond.fieldLink RX7 162 "TurnTopsModel" "typed" "I"]
def wsL_law_r27 : List Cond := [Cond.methodLink RX7 159 yX7_ofAll, Cond.instanceMethod yX7_ofAll, Cond.selects RX7 yX7_ofAll yX7_ofAll, Cond.code yX7_ofAll cX7_ofAll 4 (some .int), Cond.methodLink RL 80 yX6_undo, Cond.instanceMethod yX6_undo, Cond.selects RX6 yX6_undo yX6_undo, Cond.code yX6_undo cX6_undo 2 (some .int), Cond.methodLink RL 84 yX7_undo, Cond.instanceMethod yX7_undo, Cond.selects RX7 yX7_undo yX7_undo, Cond.code yX7_undo cX7_undo 2 (some .int), Cond.methodLink RL 85 yX6_type, Cond.instanceMethod yX6_type, Cond.selects RX6 yX6_type yX6_type, Cond.code yX6_type cX6_type 2 (some .int), Cond.methodLink RX6 191 yX5_append, Cond.instanceMethod yX5_append, Cond.selects RX5 yX5_append yX5_append, Cond.code yX5_append cX5_append 2 (some .boolean), Cond.methodLink RL 88 yX7_type, Cond.instanceMethod yX7_type, Cond.selects RX7 yX7_type yX7_type, Cond.code yX7_type cX7_type 2 (some .int)]
def wsL_law_r28 : List Cond := [Cond.methodLink RL 89 yX6_clearText, Cond.instanceMethod yX6_clearText, Cond.selects RX6 yX6_clearText yX6_clearText, Cond.code yX6_clearText cX6_clearText 1 (some .int), Cond.methodLink RX6 195 yX5_empty, Cond.instanceMethod yX5_empty, Cond.selects RX5 yX5_empty yX5_empty, Cond.code yX5_empty cX5_empty 2 (some .int), Cond.methodLink RL 92 yX7_clearText, Cond.instanceMethod yX7_clearText, Cond.selects RX7 yX7_clearText yX7_clearText, Cond.code yX7_clearText cX7_clearText 2 (some .int), Cond.methodLink RL 93 yX6_fault, Cond.instanceMethod yX6_fault, Cond.selects RX6 yX6_fault yX6_fault, Cond.code yX6_fault cX6_fault 2 (some .int), Cond.fieldLink RX6 201 "TurnTops$Text" "reason" "I", Cond.fieldLink RX6 204 "TurnTops$Text" "faultPlace" "I", Cond.methodLink RX6 198 yX5_readInto, Cond.instanceMethod yX5_readInto, Cond.selects RX5 yX5_readInto yX5_readInto, Cond.code yX5_readInto cX5_readInto 3 none, Cond.methodLink RX5 42 yX5_readSign, Cond.instanceMethod yX5_readSign]
def wsL_law_r29 : List Cond := [Cond.selects RX5 yX5_readSign yX5_readSign, Cond.code yX5_readSign cX5_readSign 3 (some .int), Cond.methodLink RX5 46 yX5_openOrder, Cond.instanceMethod yX5_openOrder, Cond.selects RX5 yX5_openOrder yX5_openOrder, Cond.code yX5_openOrder cX5_openOrder 3 (some .int), Cond.methodLink RX5 52 yX0_shapeOf, Cond.methodLink RX5 49 yX5_readTurn, Cond.instanceMethod yX5_readTurn, Cond.selects RX5 yX5_readTurn yX5_readTurn, Cond.code yX5_readTurn cX5_readTurn 3 (some .int), Cond.methodLink RX5 58 yX0_makeTurn, Cond.methodLink RL 96 yX7_fault, Cond.instanceMethod yX7_fault, Cond.selects RX7 yX7_fault yX7_fault, Cond.code yX7_fault cX7_fault 3 (some .int), Cond.fieldLink RX7 171 "TurnTopsModel" "reason" "I", Cond.methodLink RX7 183 yX7_faulty, Cond.instanceMethod yX7_faulty, Cond.selects RX7 yX7_faulty yX7_faulty, Cond.code yX7_faulty cX7_faulty 3 (some .int), Cond.methodLink RX7 180 yX7_reads, Cond.instanceMethod yX7_reads, Cond.selects RX7 yX7_reads yX7_reads]
def wsL_law_r30 : List Cond := [Cond.code yX7_reads cX7_reads 1 (some .int), Cond.fieldLink RX7 165 "TurnTopsModel" "at" "I", Cond.fieldLink RX7 174 "TurnTopsModel" "done" "I", Cond.methodLink RX7 177 yX7_does, Cond.instanceMethod yX7_does, Cond.selects RX7 yX7_does yX7_does, Cond.code yX7_does cX7_does 3 (some .boolean), Cond.methodLink RX7 168 yX7_sign, Cond.instanceMethod yX7_sign, Cond.selects RX7 yX7_sign yX7_sign, Cond.code yX7_sign cX7_sign 1 (some .int), Cond.methodLink RL 97 yX6_play, Cond.instanceMethod yX6_play, Cond.selects RX6 yX6_play yX6_play, Cond.code yX6_play cX6_play 1 (some .int), Cond.fieldLink RX6 207 "TurnTops$Text" "turns" "I", Cond.methodLink RL 100 yX7_play, Cond.instanceMethod yX7_play, Cond.selects RX7 yX7_play yX7_play, Cond.code yX7_play cX7_play 1 (some .int)]
def wsL_law : List Cond := (wsL_law_r1 ++ (wsL_law_r2 ++ (wsL_law_r3 ++ (wsL_law_r4 ++ (wsL_law_r5 ++ (wsL_law_r6 ++ (wsL_law_r7 ++ (wsL_law_r8 ++ (wsL_law_r9 ++ (wsL_law_r10 ++ (wsL_law_r11 ++ (wsL_law_r12 ++ (wsL_law_r13 ++ (wsL_law_r14 ++ (wsL_law_r15 ++ (wsL_law_r16 ++ (wsL_law_r17 ++ (wsL_law_r18 ++ (wsL_law_r19 ++ (wsL_law_r20 ++ (wsL_law_r21 ++ (wsL_law_r22 ++ (wsL_law_r23 ++ (wsL_law_r24 ++ (wsL_law_r25 ++ (wsL_law_r26 ++ (wsL_law_r27 ++ (wsL_law_r28 ++ (wsL_law_r29 ++ wsL_law_r30))))))))))))))))))))))))))))) ++ wsX60 ++ wsX70 ++ wsX30 ++ wsX50 ++ wsX00 ++ wsX20 ++ wsX10 ++ wsX40 ++ ([] : List Cond)
abbrev vwCl : List vw_C := [(RX0, TX0, 7), (RX1, TX1, 8), (RX2, TX2, 6), (RX3, TX3, 3), (RX4, TX4, 6), (RX5, TX5, 7), (RX6, TX6, 6), (RX7, TX7, 21)]
theorem inlX0 : ∀ w ∈ wsX00, w ∈ wsL_law := fun _ h => List.mem_append_left _ (List.mem_append_left _ (List.mem_append_left _ (List.mem_append_left _ (List.mem_append_right _ h))))
theorem inlX1 : ∀ w ∈ wsX10, w ∈ wsL_law := fun _ h => List.mem_append_left _ (List.mem_append_left _ (List.mem_append_right _ h))
theorem inlX2 : ∀ w ∈ wsX20, w ∈ wsL_law := fun _ h => List.mem_append_left _ (List.mem_append_left _ (List.mem_append_left _ (List.mem_append_right _ h)))
theorem inlX3 : ∀ w ∈ wsX30, w ∈ wsL_law := fun _ h => List.mem_append_left _ (List.mem_append_left _ (List.mem_append_left _ (List.mem_append_left _ (List.mem_append_left _ (List.mem_append_left _ (List.mem_append_right _ h))))))
theorem inlX4 : ∀ w ∈ wsX40, w ∈ wsL_law := fun _ h => List.mem_append_left _ (List.mem_append_right _ h)
theorem inlX5 : ∀ w ∈ wsX50, w ∈ wsL_law := fun _ h => List.mem_append_left _ (List.mem_append_left _ (List.mem_append_left _ (List.mem_append_left _ (List.mem_append_left _ (List.mem_append_right _ h)))))
theorem inlX6 : ∀ w ∈ wsX60, w ∈ wsL_law := fun _ h => List.mem_append_left _ (List.mem_append_left _ (List.mem_append_left _ (List.mem_append_left _ (List.mem_append_left _ (List.mem_append_left _ (List.mem_append_left _ (List.mem_append_left _ (List.mem_append_right _ h))))))))
theorem inlX7 : ∀ w ∈ wsX70, w ∈ wsL_law := fun _ h => List.mem_append_left _ (List.mem_append_left _ (List.mem_append_left _ (List.mem_append_left _ (List.mem_append_left _ (List.mem_append_left _ (List.mem_append_left _ (List.mem_append_right _ h)))))))
def nestL : List (String × Nat × MethodName) := [(RX6, 18, yX5_init), (RX6, 25, yX0_init), (RX6, 9, yX3_init), (RX0, 37, yX6_copy), (RX0, 41, yX6_at), (RX0, 45, yX6_put), (RX1, 24, yX6_newRow), (RX1, 56, yX6_put), (RX1, 60, yX6_at), (RX2, 35, yX6_newRow), (RX2, 60, yX6_at), (RX4, 35, yX6_newRow), (RX4, 50, yX6_at), (RX4, 72, yX6_put), (RX5, 34, yX6_put), (RX5, 38, yX6_at)]
def aoL : List String := [RX0, RX1, RX2]
